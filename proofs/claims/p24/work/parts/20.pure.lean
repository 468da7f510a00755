/-! FROM WHOLE: the rows on the cards that speak of no reference that is there (laid by wip/p24/closure.py) -/
def j_X3_isCard (x0 : Int32) : Int32 := (if x0 < 0 then 0 else (if 42 ≤ x0 then 0 else 1))
def j_X3_isArchivist (x0 : Int32) : Int32 := (if x0 = 0 then 1 else (if x0 = 1 then 1 else 0))
def j_X3_isMildew (x0 : Int32) : Int32 := (if x0 < 40 then 0 else 1)
def j_X3_provenance (x0 : Int32) : Int32 := x0 / 10
def j_X3_worth (x0 : Int32) : Int32 := (if j_X3_isMildew x0 = 0 then 10 - (x0 - x0 / 10 * 10) else (-5))
def j_X3_worthTo (x0 : Int32) (x1 : Int32) : Int32 := (if x1 = 0 then j_X3_worth x0 else (if j_X3_isMildew x0 = 0 then j_X3_worth x0 else 0))
def j_X3_isTrump (utr : Int32) (x0 : Int32) : Int32 := (if j_X3_isMildew x0 = 0 then (if j_X3_provenance x0 = utr then 1 else 0) else 0)
def j_X3_takes (utr : Int32) (x0 : Int32) (x1 : Int32) : Int32 := (if j_X3_isMildew x1 = 0 then (if j_X3_isMildew x0 = 0 then (if j_X3_provenance x1 = j_X3_provenance x0 then (if x1 - x1 / 10 * 10 ≤ x0 - x0 / 10 * 10 then 0 else 1) else (if j_X3_isTrump utr x0 = 0 then 0 else (if j_X3_isTrump utr x1 = 0 then 1 else 0))) else 0) else (if j_X3_isMildew x0 = 0 then 1 else 0))
def j_X3_inPile (udrawn : Int32) (udealt : Int32) : Int32 := (if udealt = 0 then 0 else 30 - udrawn)
def j_X3_howMany_4 (uplace : Nat → Int32) (udealt : Int32) (x0 : Int32) : Nat → Nat → Int32 → Int32
  | 0, i, y2 => y2
  | n + 1, i, y2 => (if udealt = 0 then y2 else (if uplace (nI i).toNatClampNeg = x0 then j_X3_howMany_4 uplace udealt x0 n (i + 1) (y2 + 1) else j_X3_howMany_4 uplace udealt x0 n (i + 1) (y2 + 0)))
def j_X3_howMany (uplace : Nat → Int32) (udealt : Int32) (x0 : Int32) : Int32 := j_X3_howMany_4 uplace udealt x0 42 0 0
def j_X3_hasOf_5 (uplace : Nat → Int32) (x0 : Int32) (x1 : Int32) : Nat → Nat → Int32 → Int32
  | 0, i, y3 => y3
  | n + 1, i, y3 => (if y3 = 0 then (if uplace (nI i).toNatClampNeg = x0 then (if j_X3_provenance (nI i) = x1 then j_X3_hasOf_5 uplace x0 x1 n (i + 1) 1 else j_X3_hasOf_5 uplace x0 x1 n (i + 1) 0) else j_X3_hasOf_5 uplace x0 x1 n (i + 1) 0) else j_X3_hasOf_5 uplace x0 x1 n (i + 1) 1)
def j_X3_hasOf (uplace : Nat → Int32) (x0 : Int32) (x1 : Int32) : Int32 := j_X3_hasOf_5 uplace x0 x1 40 0 0
def j_X3_hasDated (uplace : Nat → Int32) (x0 : Int32) : Int32 := (if j_X3_hasOf uplace x0 0 = 0 then (if j_X3_hasOf uplace x0 1 = 0 then (if j_X3_hasOf uplace x0 2 = 0 then (if j_X3_hasOf uplace x0 3 = 0 then 0 else 1) else 1) else 1) else 1)
def j_X3_why (uplace : Nat → Int32) (udrawn : Int32) (udealt : Int32) (uon : Int32) (uturn : Int32) (uled : Int32) (utr : Int32) (x0 : Int32) : Int32 := (if uon = 0 then 1 else (if uplace (x0).toNatClampNeg = uturn then (if 0 ≤ uled then (if 0 < j_X3_inPile udrawn udealt then 0 else (if j_X3_isMildew uled = 0 then (if j_X3_hasOf uplace uturn (j_X3_provenance uled) = 0 then (if j_X3_hasOf uplace uturn utr = 0 then 0 else (if j_X3_isTrump utr x0 = 0 then 5 else 0)) else (if j_X3_isMildew x0 = 0 then (if j_X3_provenance x0 = j_X3_provenance uled then 0 else 4) else 4)) else 0)) else (if j_X3_isMildew x0 = 0 then 0 else (if j_X3_hasDated uplace uturn = 0 then 0 else 3))) else 2))
def j_X3_draws_uplace (uplace : Nat → Int32) (urow : Nat → Int32) (udrawn : Int32) (udealt : Int32) (x0 : Int32) : Nat → Int32 := (if j_X3_inPile udrawn udealt ≤ 0 then uplace else upd uplace (urow (((if 29 ≤ udrawn then 12 else 13 + udrawn) : Int32)).toNatClampNeg).toNatClampNeg x0)
def j_X3_draws_udrawn (udrawn : Int32) (udealt : Int32) : Int32 := (if j_X3_inPile udrawn udealt ≤ 0 then udrawn else udrawn + 1)
def j_X3_ends (uturn : Int32) (uled : Int32) (utr : Int32) (x0 : Int32) : Int32 := ((if j_X3_takes utr x0 uled = 0 then 1 - uturn else uturn) : Int32)
def j_X3_ends_uplace (uplace : Nat → Int32) (urow : Nat → Int32) (udrawn : Int32) (udealt : Int32) (uturn : Int32) (uled : Int32) (utr : Int32) (x0 : Int32) : Nat → Int32 := j_X3_draws_uplace (j_X3_draws_uplace (upd (upd uplace x0.toNatClampNeg (4 + ((if j_X3_takes utr x0 uled = 0 then 1 - uturn else uturn) : Int32))) uled.toNatClampNeg (4 + ((if j_X3_takes utr x0 uled = 0 then 1 - uturn else uturn) : Int32))) urow udrawn udealt ((if j_X3_takes utr x0 uled = 0 then 1 - uturn else uturn) : Int32)) urow (j_X3_draws_udrawn udrawn udealt) udealt (1 - ((if j_X3_takes utr x0 uled = 0 then 1 - uturn else uturn) : Int32))
def j_X3_ends_upts (upts : Nat → Int32) (uglv : Nat → Int32) (uturn : Int32) (uled : Int32) (utr : Int32) (x0 : Int32) : Nat → Int32 := upd upts ((if j_X3_takes utr x0 uled = 0 then 1 - uturn else uturn) : Int32).toNatClampNeg ((upts (((if j_X3_takes utr x0 uled = 0 then 1 - uturn else uturn) : Int32)).toNatClampNeg) + ((j_X3_worthTo x0 ((if uglv (((if j_X3_takes utr x0 uled = 0 then 1 - uturn else uturn) : Int32)).toNatClampNeg = 1 then 1 else 0) : Int32)) + (j_X3_worthTo uled ((if uglv (((if j_X3_takes utr x0 uled = 0 then 1 - uturn else uturn) : Int32)).toNatClampNeg = 1 then 1 else 0) : Int32))))
def j_X3_ends_utks (utks : Nat → Int32) (uturn : Int32) (uled : Int32) (utr : Int32) (x0 : Int32) : Nat → Int32 := upd utks ((if j_X3_takes utr x0 uled = 0 then 1 - uturn else uturn) : Int32).toNatClampNeg ((utks (((if j_X3_takes utr x0 uled = 0 then 1 - uturn else uturn) : Int32)).toNatClampNeg) + 1)
def j_X3_ends_uglv (uglv : Nat → Int32) : Nat → Int32 := upd (upd uglv (0 : Int32).toNatClampNeg ((if uglv (0 : Int32).toNatClampNeg = 1 then 2 else uglv (0 : Int32).toNatClampNeg) : Int32)) (1 : Int32).toNatClampNeg ((if (upd uglv (0 : Int32).toNatClampNeg ((if uglv (0 : Int32).toNatClampNeg = 1 then 2 else uglv (0 : Int32).toNatClampNeg) : Int32)) (1 : Int32).toNatClampNeg = 1 then 2 else (upd uglv (0 : Int32).toNatClampNeg ((if uglv (0 : Int32).toNatClampNeg = 1 then 2 else uglv (0 : Int32).toNatClampNeg) : Int32)) (1 : Int32).toNatClampNeg) : Int32)
def j_X3_ends_uwin (uplace : Nat → Int32) (urow : Nat → Int32) (upts : Nat → Int32) (uglv : Nat → Int32) (uwin : Nat → Int32) (udrawn : Int32) (udealt : Int32) (uturn : Int32) (uled : Int32) (utr : Int32) (x0 : Int32) : Nat → Int32 := (if (j_X3_howMany (j_X3_draws_uplace (j_X3_draws_uplace (upd (upd uplace x0.toNatClampNeg (4 + ((if j_X3_takes utr x0 uled = 0 then 1 - uturn else uturn) : Int32))) uled.toNatClampNeg (4 + ((if j_X3_takes utr x0 uled = 0 then 1 - uturn else uturn) : Int32))) urow udrawn udealt ((if j_X3_takes utr x0 uled = 0 then 1 - uturn else uturn) : Int32)) urow (j_X3_draws_udrawn udrawn udealt) udealt (1 - ((if j_X3_takes utr x0 uled = 0 then 1 - uturn else uturn) : Int32))) udealt 0) + (j_X3_howMany (j_X3_draws_uplace (j_X3_draws_uplace (upd (upd uplace x0.toNatClampNeg (4 + ((if j_X3_takes utr x0 uled = 0 then 1 - uturn else uturn) : Int32))) uled.toNatClampNeg (4 + ((if j_X3_takes utr x0 uled = 0 then 1 - uturn else uturn) : Int32))) urow udrawn udealt ((if j_X3_takes utr x0 uled = 0 then 1 - uturn else uturn) : Int32)) urow (j_X3_draws_udrawn udrawn udealt) udealt (1 - ((if j_X3_takes utr x0 uled = 0 then 1 - uturn else uturn) : Int32))) udealt 1) = 0 then upd (upd uwin (0 : Int32).toNatClampNeg ((uwin (0 : Int32).toNatClampNeg) + ((if (upd upts ((if j_X3_takes utr x0 uled = 0 then 1 - uturn else uturn) : Int32).toNatClampNeg ((upts (((if j_X3_takes utr x0 uled = 0 then 1 - uturn else uturn) : Int32)).toNatClampNeg) + ((j_X3_worthTo x0 ((if uglv (((if j_X3_takes utr x0 uled = 0 then 1 - uturn else uturn) : Int32)).toNatClampNeg = 1 then 1 else 0) : Int32)) + (j_X3_worthTo uled ((if uglv (((if j_X3_takes utr x0 uled = 0 then 1 - uturn else uturn) : Int32)).toNatClampNeg = 1 then 1 else 0) : Int32))))) (0 : Int32).toNatClampNeg ≤ (upd upts ((if j_X3_takes utr x0 uled = 0 then 1 - uturn else uturn) : Int32).toNatClampNeg ((upts (((if j_X3_takes utr x0 uled = 0 then 1 - uturn else uturn) : Int32)).toNatClampNeg) + ((j_X3_worthTo x0 ((if uglv (((if j_X3_takes utr x0 uled = 0 then 1 - uturn else uturn) : Int32)).toNatClampNeg = 1 then 1 else 0) : Int32)) + (j_X3_worthTo uled ((if uglv (((if j_X3_takes utr x0 uled = 0 then 1 - uturn else uturn) : Int32)).toNatClampNeg = 1 then 1 else 0) : Int32))))) (1 : Int32).toNatClampNeg then 0 else 1) : Int32))) (1 : Int32).toNatClampNeg (((upd uwin (0 : Int32).toNatClampNeg ((uwin (0 : Int32).toNatClampNeg) + ((if (upd upts ((if j_X3_takes utr x0 uled = 0 then 1 - uturn else uturn) : Int32).toNatClampNeg ((upts (((if j_X3_takes utr x0 uled = 0 then 1 - uturn else uturn) : Int32)).toNatClampNeg) + ((j_X3_worthTo x0 ((if uglv (((if j_X3_takes utr x0 uled = 0 then 1 - uturn else uturn) : Int32)).toNatClampNeg = 1 then 1 else 0) : Int32)) + (j_X3_worthTo uled ((if uglv (((if j_X3_takes utr x0 uled = 0 then 1 - uturn else uturn) : Int32)).toNatClampNeg = 1 then 1 else 0) : Int32))))) (0 : Int32).toNatClampNeg ≤ (upd upts ((if j_X3_takes utr x0 uled = 0 then 1 - uturn else uturn) : Int32).toNatClampNeg ((upts (((if j_X3_takes utr x0 uled = 0 then 1 - uturn else uturn) : Int32)).toNatClampNeg) + ((j_X3_worthTo x0 ((if uglv (((if j_X3_takes utr x0 uled = 0 then 1 - uturn else uturn) : Int32)).toNatClampNeg = 1 then 1 else 0) : Int32)) + (j_X3_worthTo uled ((if uglv (((if j_X3_takes utr x0 uled = 0 then 1 - uturn else uturn) : Int32)).toNatClampNeg = 1 then 1 else 0) : Int32))))) (1 : Int32).toNatClampNeg then 0 else 1) : Int32))) (1 : Int32).toNatClampNeg) + ((if (upd upts ((if j_X3_takes utr x0 uled = 0 then 1 - uturn else uturn) : Int32).toNatClampNeg ((upts (((if j_X3_takes utr x0 uled = 0 then 1 - uturn else uturn) : Int32)).toNatClampNeg) + ((j_X3_worthTo x0 ((if uglv (((if j_X3_takes utr x0 uled = 0 then 1 - uturn else uturn) : Int32)).toNatClampNeg = 1 then 1 else 0) : Int32)) + (j_X3_worthTo uled ((if uglv (((if j_X3_takes utr x0 uled = 0 then 1 - uturn else uturn) : Int32)).toNatClampNeg = 1 then 1 else 0) : Int32))))) (1 : Int32).toNatClampNeg ≤ (upd upts ((if j_X3_takes utr x0 uled = 0 then 1 - uturn else uturn) : Int32).toNatClampNeg ((upts (((if j_X3_takes utr x0 uled = 0 then 1 - uturn else uturn) : Int32)).toNatClampNeg) + ((j_X3_worthTo x0 ((if uglv (((if j_X3_takes utr x0 uled = 0 then 1 - uturn else uturn) : Int32)).toNatClampNeg = 1 then 1 else 0) : Int32)) + (j_X3_worthTo uled ((if uglv (((if j_X3_takes utr x0 uled = 0 then 1 - uturn else uturn) : Int32)).toNatClampNeg = 1 then 1 else 0) : Int32))))) (0 : Int32).toNatClampNeg then 0 else 1) : Int32)) else uwin)
def j_X3_ends_udrawn (udrawn : Int32) (udealt : Int32) : Int32 := j_X3_draws_udrawn (j_X3_draws_udrawn udrawn udealt) udealt
def j_X3_ends_uon (uplace : Nat → Int32) (urow : Nat → Int32) (udrawn : Int32) (udealt : Int32) (uon : Int32) (uturn : Int32) (uled : Int32) (utr : Int32) (x0 : Int32) : Int32 := (if (j_X3_howMany (j_X3_draws_uplace (j_X3_draws_uplace (upd (upd uplace x0.toNatClampNeg (4 + ((if j_X3_takes utr x0 uled = 0 then 1 - uturn else uturn) : Int32))) uled.toNatClampNeg (4 + ((if j_X3_takes utr x0 uled = 0 then 1 - uturn else uturn) : Int32))) urow udrawn udealt ((if j_X3_takes utr x0 uled = 0 then 1 - uturn else uturn) : Int32)) urow (j_X3_draws_udrawn udrawn udealt) udealt (1 - ((if j_X3_takes utr x0 uled = 0 then 1 - uturn else uturn) : Int32))) udealt 0) + (j_X3_howMany (j_X3_draws_uplace (j_X3_draws_uplace (upd (upd uplace x0.toNatClampNeg (4 + ((if j_X3_takes utr x0 uled = 0 then 1 - uturn else uturn) : Int32))) uled.toNatClampNeg (4 + ((if j_X3_takes utr x0 uled = 0 then 1 - uturn else uturn) : Int32))) urow udrawn udealt ((if j_X3_takes utr x0 uled = 0 then 1 - uturn else uturn) : Int32)) urow (j_X3_draws_udrawn udrawn udealt) udealt (1 - ((if j_X3_takes utr x0 uled = 0 then 1 - uturn else uturn) : Int32))) udealt 1) = 0 then 0 else uon)
def j_X3_ends_uturn (uturn : Int32) (uled : Int32) (utr : Int32) (x0 : Int32) : Int32 := ((if j_X3_takes utr x0 uled = 0 then 1 - uturn else uturn) : Int32)
def j_X3_ends_uled  : Int32 := (-1)
def j_X3_play (uplace : Nat → Int32) (udrawn : Int32) (udealt : Int32) (uon : Int32) (uturn : Int32) (uled : Int32) (utr : Int32) (x0 : Int32) : Int32 := (if j_X3_isCard x0 = 0 then 0 else (if j_X3_why uplace udrawn udealt uon uturn uled utr x0 = 0 then (if uled < 0 then (-1) else j_X3_ends uturn uled utr x0) else 0))
def j_X3_play_uplace (uplace : Nat → Int32) (urow : Nat → Int32) (udrawn : Int32) (udealt : Int32) (uon : Int32) (uturn : Int32) (uled : Int32) (utr : Int32) (x0 : Int32) : Nat → Int32 := (if j_X3_isCard x0 = 0 then uplace else (if j_X3_why uplace udrawn udealt uon uturn uled utr x0 = 0 then (if uled < 0 then upd uplace x0.toNatClampNeg (3 : Int32) else j_X3_ends_uplace uplace urow udrawn udealt uturn uled utr x0) else uplace))
def j_X3_play_upts (uplace : Nat → Int32) (upts : Nat → Int32) (uglv : Nat → Int32) (udrawn : Int32) (udealt : Int32) (uon : Int32) (uturn : Int32) (uled : Int32) (utr : Int32) (x0 : Int32) : Nat → Int32 := (if j_X3_isCard x0 = 0 then upts else (if j_X3_why uplace udrawn udealt uon uturn uled utr x0 = 0 then (if uled < 0 then upts else j_X3_ends_upts upts uglv uturn uled utr x0) else upts))
def j_X3_play_utks (uplace : Nat → Int32) (utks : Nat → Int32) (udrawn : Int32) (udealt : Int32) (uon : Int32) (uturn : Int32) (uled : Int32) (utr : Int32) (x0 : Int32) : Nat → Int32 := (if j_X3_isCard x0 = 0 then utks else (if j_X3_why uplace udrawn udealt uon uturn uled utr x0 = 0 then (if uled < 0 then utks else j_X3_ends_utks utks uturn uled utr x0) else utks))
def j_X3_play_uglv (uplace : Nat → Int32) (uglv : Nat → Int32) (udrawn : Int32) (udealt : Int32) (uon : Int32) (uturn : Int32) (uled : Int32) (utr : Int32) (x0 : Int32) : Nat → Int32 := (if j_X3_isCard x0 = 0 then uglv else (if j_X3_why uplace udrawn udealt uon uturn uled utr x0 = 0 then (if uled < 0 then uglv else j_X3_ends_uglv uglv) else uglv))
def j_X3_play_uwin (uplace : Nat → Int32) (urow : Nat → Int32) (upts : Nat → Int32) (uglv : Nat → Int32) (uwin : Nat → Int32) (udrawn : Int32) (udealt : Int32) (uon : Int32) (uturn : Int32) (uled : Int32) (utr : Int32) (x0 : Int32) : Nat → Int32 := (if j_X3_isCard x0 = 0 then uwin else (if j_X3_why uplace udrawn udealt uon uturn uled utr x0 = 0 then (if uled < 0 then uwin else j_X3_ends_uwin uplace urow upts uglv uwin udrawn udealt uturn uled utr x0) else uwin))
def j_X3_play_udrawn (uplace : Nat → Int32) (udrawn : Int32) (udealt : Int32) (uon : Int32) (uturn : Int32) (uled : Int32) (utr : Int32) (x0 : Int32) : Int32 := (if j_X3_isCard x0 = 0 then udrawn else (if j_X3_why uplace udrawn udealt uon uturn uled utr x0 = 0 then (if uled < 0 then udrawn else j_X3_ends_udrawn udrawn udealt) else udrawn))
def j_X3_play_uon (uplace : Nat → Int32) (urow : Nat → Int32) (udrawn : Int32) (udealt : Int32) (uon : Int32) (uturn : Int32) (uled : Int32) (utr : Int32) (x0 : Int32) : Int32 := (if j_X3_isCard x0 = 0 then uon else (if j_X3_why uplace udrawn udealt uon uturn uled utr x0 = 0 then (if uled < 0 then uon else j_X3_ends_uon uplace urow udrawn udealt uon uturn uled utr x0) else uon))
def j_X3_play_uturn (uplace : Nat → Int32) (udrawn : Int32) (udealt : Int32) (uon : Int32) (uturn : Int32) (uled : Int32) (utr : Int32) (x0 : Int32) : Int32 := (if j_X3_isCard x0 = 0 then uturn else (if j_X3_why uplace udrawn udealt uon uturn uled utr x0 = 0 then (if uled < 0 then 1 - uturn else j_X3_ends_uturn uturn uled utr x0) else uturn))
def j_X3_play_uled (uplace : Nat → Int32) (udrawn : Int32) (udealt : Int32) (uon : Int32) (uturn : Int32) (uled : Int32) (utr : Int32) (x0 : Int32) : Int32 := (if j_X3_isCard x0 = 0 then uled else (if j_X3_why uplace udrawn udealt uon uturn uled utr x0 = 0 then (if uled < 0 then x0 else j_X3_ends_uled) else uled))
def j_X3_play_uthr (uplace : Nat → Int32) (udrawn : Int32) (udealt : Int32) (uon : Int32) (uturn : Int32) (uled : Int32) (utr : Int32) (x0 : Int32) : Int32 := (if j_X3_isCard x0 = 0 then 1 else (if j_X3_why uplace udrawn udealt uon uturn uled utr x0 = 0 then 0 else 2))
def j_X3_putOnGloves (uglv : Nat → Int32) (uon : Int32) (uturn : Int32) : Int32 := (if uon = 0 then 0 else (if uglv (uturn).toNatClampNeg = 0 then uturn else 0))
def j_X3_putOnGloves_uglv (uglv : Nat → Int32) (uon : Int32) (uturn : Int32) : Nat → Int32 := (if uon = 0 then uglv else (if uglv (uturn).toNatClampNeg = 0 then upd uglv uturn.toNatClampNeg (1 : Int32) else uglv))
def j_X3_putOnGloves_uthr (uglv : Nat → Int32) (uon : Int32) (uturn : Int32) : Int32 := (if uon = 0 then 1 else (if uglv (uturn).toNatClampNeg = 0 then 0 else 1))
def j_X3_whyNot (uplace : Nat → Int32) (udrawn : Int32) (udealt : Int32) (uon : Int32) (uturn : Int32) (uled : Int32) (utr : Int32) (x0 : Int32) : Int32 := (if j_X3_isCard x0 = 0 then 0 else j_X3_why uplace udrawn udealt uon uturn uled utr x0)
def j_X3_isPlaying (uon : Int32) : Int32 := uon
def j_X3_turn (uon : Int32) (uturn : Int32) : Int32 := (if uon = 0 then (-1) else uturn)
def j_X3_led (uled : Int32) : Int32 := uled
def j_X3_trumps (utr : Int32) : Int32 := utr
def j_X3_pile (udrawn : Int32) (udealt : Int32) : Int32 := j_X3_inPile udrawn udealt
def j_X3_cards (uplace : Nat → Int32) (udealt : Int32) (x0 : Int32) : Int32 := (if j_X3_isArchivist x0 = 0 then 0 else j_X3_howMany uplace udealt x0)
def j_X3_cardAt_10 (uplace : Nat → Int32) (udealt : Int32) (x0 : Int32) (x1 : Int32) : Nat → Nat → Int32 → Int32
  | 0, i, y3 => 0
  | n + 1, i, y3 => (if udealt = 0 then 0 else (if j_X3_isArchivist x0 = 0 then 0 else (if x1 < 0 then 0 else (if uplace (nI i).toNatClampNeg = x0 then (if y3 = 0 then nI i else j_X3_cardAt_10 uplace udealt x0 x1 n (i + 1) (y3 + (-1))) else j_X3_cardAt_10 uplace udealt x0 x1 n (i + 1) y3))))
def j_X3_cardAt (uplace : Nat → Int32) (udealt : Int32) (x0 : Int32) (x1 : Int32) : Int32 := j_X3_cardAt_10 uplace udealt x0 x1 42 0 x1
def j_X3_cardAt_uthr_10 (uplace : Nat → Int32) (udealt : Int32) (x0 : Int32) (x1 : Int32) : Nat → Nat → Int32 → Int32
  | 0, i, y3 => 1
  | n + 1, i, y3 => (if udealt = 0 then 1 else (if j_X3_isArchivist x0 = 0 then 1 else (if x1 < 0 then 1 else (if uplace (nI i).toNatClampNeg = x0 then (if y3 = 0 then 0 else j_X3_cardAt_uthr_10 uplace udealt x0 x1 n (i + 1) (y3 + (-1))) else j_X3_cardAt_uthr_10 uplace udealt x0 x1 n (i + 1) y3))))
def j_X3_cardAt_uthr (uplace : Nat → Int32) (udealt : Int32) (x0 : Int32) (x1 : Int32) : Int32 := j_X3_cardAt_uthr_10 uplace udealt x0 x1 42 0 x1
def j_X3_placeOf (uplace : Nat → Int32) (udealt : Int32) (x0 : Int32) : Int32 := (if j_X3_isCard x0 = 0 then 0 else (if udealt = 0 then (-1) else uplace (x0).toNatClampNeg))
def j_X3_choices_9 (uplace : Nat → Int32) (udrawn : Int32) (udealt : Int32) (uon : Int32) (uturn : Int32) (uled : Int32) (utr : Int32) : Nat → Nat → Int32 → Int32
  | 0, i, y1 => y1
  | n + 1, i, y1 => (if j_X3_why uplace udrawn udealt uon uturn uled utr (nI i) = 0 then j_X3_choices_9 uplace udrawn udealt uon uturn uled utr n (i + 1) (y1 + 1) else j_X3_choices_9 uplace udrawn udealt uon uturn uled utr n (i + 1) (y1 + 0))
def j_X3_choices (uplace : Nat → Int32) (udrawn : Int32) (udealt : Int32) (uon : Int32) (uturn : Int32) (uled : Int32) (utr : Int32) : Int32 := j_X3_choices_9 uplace udrawn udealt uon uturn uled utr 42 0 0
def j_X3_wouldTake (uturn : Int32) (uled : Int32) (utr : Int32) (x0 : Int32) : Int32 := (if j_X3_isCard x0 = 0 then 0 else (if uled < 0 then 0 else (if uled = x0 then 0 else (if j_X3_takes utr x0 uled = 0 then 1 - uturn else uturn))))
def j_X3_wouldTake_uthr (uled : Int32) (x0 : Int32) : Int32 := (if j_X3_isCard x0 = 0 then 1 else (if uled < 0 then 2 else (if uled = x0 then 2 else 0)))
def j_X3_wonByFirst (uwin : Nat → Int32) : Int32 := uwin (0 : Int32).toNatClampNeg
def j_X3_wonBySecond (uwin : Nat → Int32) : Int32 := uwin (1 : Int32).toNatClampNeg
def j_X3_deal_102_uplace  (zrow : Nat → Int32) : Nat → Nat → (Nat → Int32) → (Nat → Int32)
  | 0, i, zuplace => zuplace
  | n + 1, i, zuplace => j_X3_deal_102_uplace  zrow n (i + 1) (upd zuplace (zrow (nI i).toNatClampNeg).toNatClampNeg ((if 6 ≤ nI i then ((if 12 ≤ nI i then 2 else 1) : Int32) else 0) : Int32))
def j_X3_deal_32_urow  : Nat → Int64 → (Nat → Int32) → (Nat → Int32)
  | 0, y3, zurow => zurow
  | i + 1, y3, zurow => j_X3_deal_32_urow  i ((y3 * 6364136223846793005) + 1442695040888963407) (upd (upd zurow (nI (i + 1)).toNatClampNeg (zurow ((((((y3 * 6364136223846793005) + 1442695040888963407).toUInt64 >>> ((33 : Int32).toInt64.toUInt64 &&& Int64.toUInt64 63)).toInt64) - ((((y3 * 6364136223846793005) + 1442695040888963407).toUInt64 >>> ((33 : Int32).toInt64.toUInt64 &&& Int64.toUInt64 63)).toInt64) / (((nI (i + 1)).toInt64) + 1) * (((nI (i + 1)).toInt64) + 1)).toInt32).toNatClampNeg)) ((((((y3 * 6364136223846793005) + 1442695040888963407).toUInt64 >>> ((33 : Int32).toInt64.toUInt64 &&& Int64.toUInt64 63)).toInt64) - ((((y3 * 6364136223846793005) + 1442695040888963407).toUInt64 >>> ((33 : Int32).toInt64.toUInt64 &&& Int64.toUInt64 63)).toInt64) / (((nI (i + 1)).toInt64) + 1) * (((nI (i + 1)).toInt64) + 1)).toInt32).toNatClampNeg (zurow (nI (i + 1)).toNatClampNeg))
def j_X3_deal_7_urow  : Nat → Nat → (Nat → Int32) → (Nat → Int32)
  | 0, i, zurow => zurow
  | n + 1, i, zurow => j_X3_deal_7_urow  n (i + 1) (upd zurow (nI i).toNatClampNeg (nI i))
def j_X3_deal (urow : Nat → Int32) (x0 : Int64) : Int32 := ((if j_X3_isMildew ((j_X3_deal_32_urow  41 x0 (j_X3_deal_7_urow  (42) 0 urow)) (12 : Int32).toNatClampNeg) = 0 then j_X3_provenance ((j_X3_deal_32_urow  41 x0 (j_X3_deal_7_urow  (42) 0 urow)) (12 : Int32).toNatClampNeg) else 0) : Int32)
def j_X3_deal_uplace (uplace : Nat → Int32) (urow : Nat → Int32) (x0 : Int64) : Nat → Int32 := j_X3_deal_102_uplace  (j_X3_deal_32_urow  41 x0 (j_X3_deal_7_urow  (42) 0 urow)) (42) 0 uplace
def j_X3_deal_urow (urow : Nat → Int32) (x0 : Int64) : Nat → Int32 := j_X3_deal_32_urow  41 x0 (j_X3_deal_7_urow  (42) 0 urow)
def j_X3_deal_upts (upts : Nat → Int32) : Nat → Int32 := upd (upd upts (0 : Int32).toNatClampNeg (0 : Int32)) (1 : Int32).toNatClampNeg (0 : Int32)
def j_X3_deal_utks (utks : Nat → Int32) : Nat → Int32 := upd (upd utks (0 : Int32).toNatClampNeg (0 : Int32)) (1 : Int32).toNatClampNeg (0 : Int32)
def j_X3_deal_uglv (uglv : Nat → Int32) : Nat → Int32 := upd (upd uglv (0 : Int32).toNatClampNeg (0 : Int32)) (1 : Int32).toNatClampNeg (0 : Int32)
def j_X3_deal_udrawn  : Int32 := 0
def j_X3_deal_udealt  : Int32 := 1
def j_X3_deal_uon  : Int32 := 1
def j_X3_deal_uturn  : Int32 := 0
def j_X3_deal_uled  : Int32 := (-1)
def j_X3_deal_utr (urow : Nat → Int32) (x0 : Int64) : Int32 := ((if j_X3_isMildew ((j_X3_deal_32_urow  41 x0 (j_X3_deal_7_urow  (42) 0 urow)) (12 : Int32).toNatClampNeg) = 0 then j_X3_provenance ((j_X3_deal_32_urow  41 x0 (j_X3_deal_7_urow  (42) 0 urow)) (12 : Int32).toNatClampNeg) else 0) : Int32)
def fb_ct (p : Nat → Bool) : Nat → Nat
  | 0 => 0
  | n + 1 => fb_ct p n + (if p n then 1 else 0)
theorem fb_ct_succ (p : Nat → Bool) (n : Nat) : fb_ct p (n + 1) = fb_ct p n + (if p n then 1 else 0) := rfl
theorem fb_ct_le (p : Nat → Bool) : ∀ n, fb_ct p n ≤ n
  | 0 => Nat.le_refl _
  | n + 1 => by
    have h := fb_ct_le p n
    rw [fb_ct_succ]
    split <;> omega
theorem fb_ct_cong {p q : Nat → Bool} : ∀ {n : Nat}, (∀ k, k < n → p k = q k) → fb_ct p n = fb_ct q n
  | 0, _ => rfl
  | n + 1, h => by
    rw [fb_ct_succ, fb_ct_succ, fb_ct_cong (fun k hk => h k (by omega)), h n (by omega)]
/-- one place changed -/
theorem fb_ct_out (p : Nat → Bool) (b : Bool) {i n : Nat} (h : n ≤ i) : fb_ct (fun k => if k = i then b else p k) n = fb_ct p n :=
  fb_ct_cong fun k hk => if_neg (by omega)
theorem fb_ct_upd (p : Nat → Bool) (b : Bool) {i : Nat} : ∀ {n : Nat}, i < n → fb_ct (fun k => if k = i then b else p k) n + (if p i then 1 else 0) = fb_ct p n + (if b then 1 else 0)
  | 0, h => absurd h (Nat.not_lt_zero i)
  | n + 1, h => by
    rw [fb_ct_succ, fb_ct_succ]
    rcases Nat.lt_or_ge i n with q | q
    · have := fb_ct_upd p b q
      have e : (if n = i then b else p n) = p n := if_neg (by omega)
      rw [e]
      omega
    · have e : i = n := by omega
      subst e
      rw [fb_ct_out p b (Nat.le_refl _)]
      simp only [if_true]
      omega
theorem fb_ct_sub {p q : Nat → Bool} : ∀ {n : Nat}, (∀ k, k < n → p k = true → q k = true) → fb_ct p n ≤ fb_ct q n
  | 0, _ => Nat.le_refl _
  | n + 1, h => by
    have h1 := fb_ct_sub (n := n) (p := p) (q := q) (fun k hk => h k (by omega))
    have h2 := h n (by omega)
    rw [fb_ct_succ, fb_ct_succ]
    cases hp : p n <;> cases hq : q n <;> simp_all <;> omega
theorem fb_ct_or {p q : Nat → Bool} : ∀ {n : Nat}, (∀ k, k < n → ¬ (p k = true ∧ q k = true)) → fb_ct (fun k => p k || q k) n = fb_ct p n + fb_ct q n
  | 0, _ => rfl
  | n + 1, h => by
    have h1 := fb_ct_or (n := n) (p := p) (q := q) (fun k hk => h k (by omega))
    have h2 := h n (by omega)
    rw [fb_ct_succ, fb_ct_succ, fb_ct_succ, h1]
    cases hp : p n <;> cases hq : q n <;> simp_all <;> omega
theorem fb_ct_split (p : Nat → Bool) (m : Nat) : ∀ n, fb_ct p (m + n) = fb_ct p m + fb_ct (fun k => p (m + k)) n
  | 0 => rfl
  | n + 1 => by
    have h := fb_ct_split p m n
    show fb_ct p (m + n + 1) = _
    rw [fb_ct_succ, fb_ct_succ, h, Nat.add_assoc]
theorem fb_ct_zero {p : Nat → Bool} : ∀ {n : Nat}, fb_ct p n = 0 ↔ ∀ k, k < n → p k = false
  | 0 => ⟨fun _ k hk => absurd hk (Nat.not_lt_zero k), fun _ => rfl⟩
  | n + 1 => by
    have h := fb_ct_zero (p := p) (n := n)
    rw [fb_ct_succ]
    constructor
    · intro e k hk
      have e1 : fb_ct p n = 0 := by omega
      rcases Nat.lt_or_ge k n with q | q
      · exact h.mp e1 k q
      · have ek : k = n := by omega
        subst ek
        cases hp : p k
        · rfl
        · simp [hp] at e
    · intro a
      rw [h.mpr (fun k hk => a k (by omega)), a n (by omega)]
      rfl
theorem fb_ct_pos {p : Nat → Bool} {n : Nat} : 0 < fb_ct p n ↔ ∃ k, k < n ∧ p k = true := by
  constructor
  · intro h
    refine Classical.byContradiction fun hx => ?_
    have := fb_ct_zero.mpr (fun k hk => by
      cases hp : p k
      · rfl
      · exact absurd ⟨k, hk, hp⟩ hx : ∀ k, k < n → p k = false)
    omega
  · rintro ⟨k, hk, hp⟩
    rcases Nat.eq_zero_or_pos (fb_ct p n) with e | e
    · have := fb_ct_zero.mp e k hk
      rw [this] at hp
      cases hp
    · exact e
/-- the k-th place with the property -/
theorem fb_ct_kth {p : Nat → Bool} {k : Nat} : ∀ {n : Nat}, k < fb_ct p n → ∃ i, i < n ∧ p i = true ∧ fb_ct p i = k
  | 0, h => absurd h (Nat.not_lt_zero k)
  | n + 1, h => by
    rcases Nat.lt_or_ge k (fb_ct p n) with q | q
    · obtain ⟨i, h1, h2⟩ := fb_ct_kth q
      exact ⟨i, by omega, h2⟩
    · rw [fb_ct_succ] at h
      cases hp : p n
      · simp [hp] at h; omega
      · simp [hp] at h
        exact ⟨n, by omega, hp, by omega⟩
def zs_in (h : Int64) (c : Nat) : Bool := h.toBitVec.getLsbD c
theorem zs_ext {a b : Int64} (h : ∀ c, c < 64 → zs_in a c = zs_in b c) : a = b :=
  Int64.toBitVec_inj.mp (BitVec.eq_of_getLsbD_eq (fun c hc => h c hc))
theorem zs_big (h : Int64) {c : Nat} (hc : 64 ≤ c) : zs_in h c = false := BitVec.getLsbD_of_ge _ _ hc
theorem zs_and (a b : Int64) (c : Nat) : zs_in (a &&& b) c = (zs_in a c && zs_in b c) := by
  unfold zs_in; rw [Int64.toBitVec_and, BitVec.getLsbD_and]
theorem zs_or (a b : Int64) (c : Nat) : zs_in (a ||| b) c = (zs_in a c || zs_in b c) := by
  unfold zs_in; rw [Int64.toBitVec_or, BitVec.getLsbD_or]
theorem zs_xor (a b : Int64) (c : Nat) : zs_in (a ^^^ b) c = (zs_in a c ^^ zs_in b c) := by
  unfold zs_in; rw [Int64.toBitVec_xor, BitVec.getLsbD_xor]
theorem zs_m1 {c : Nat} (hc : c < 64) : zs_in (-1) c = true := by
  have h : (-1 : Int64).toBitVec = BitVec.allOnes 64 := by decide
  unfold zs_in; rw [h, BitVec.getLsbD_allOnes]; simpa using hc
theorem zs_0 (c : Nat) : zs_in 0 c = false := by
  have h : (0 : Int64).toBitVec = 0#64 := by decide
  unfold zs_in; rw [h]; simp
theorem zs_bitv : ∀ c, c < 64 → (j_X2_bit (nI c)).toBitVec = BitVec.twoPow 64 c := by decide +kernel
theorem zs_bit {c : Nat} (hc : c < 64) (d : Nat) : zs_in (j_X2_bit (nI c)) d = decide (d = c) := by
  unfold zs_in; rw [zs_bitv c hc, BitVec.getLsbD_twoPow]
  by_cases h : d = c
  · subst h; simp [hc]
  · have h' : ¬ c = d := fun e => h e.symm
    simp [h, h']
theorem zs_drop {c : Nat} (hc : c < 64) (h : Int64) (d : Nat) : zs_in (h &&& ((j_X2_bit (nI c)) ^^^ (-1))) d = (zs_in h d && !decide (d = c)) := by
  rw [zs_and, zs_xor, zs_bit hc]
  by_cases hd : d < 64
  · rw [zs_m1 hd]; simp
  · rw [zs_big h (by omega)]; simp
theorem zs_add {c : Nat} (hc : c < 64) (h : Int64) (d : Nat) : zs_in (h ||| (j_X2_bit (nI c))) d = (zs_in h d || decide (d = c)) := by
  rw [zs_or, zs_bit hc]
theorem zs_nil {h : Int64} : h = 0 ↔ ∀ c, c < 64 → zs_in h c = false :=
  ⟨fun e c _ => by rw [e]; exact zs_0 c, fun k => zs_ext fun c hc => by rw [k c hc, zs_0]⟩
theorem zs_cmp {h : Int64} : lg_cmp h 0 = 0 ↔ ∀ c, c < 64 → zs_in h c = false := (lg_cmp_eq h 0).trans zs_nil
theorem zs_ifc {p q : Prop} [Decidable p] {a : Int32} (e : p ↔ q) (ha : ¬ a = 0) : (if p then 0 else a) = 0 ↔ q := by
  by_cases h : p
  · rw [if_pos h]; exact ⟨fun _ => e.mp h, fun _ => rfl⟩
  · rw [if_neg h]; exact ⟨fun k => absurd k ha, fun k => absurd (e.mpr k) h⟩
theorem zs_shv : ∀ c, c < 64 → ((((nI c : Int32)).toInt64.toUInt64 &&& Int64.toUInt64 63).toBitVec % 64).toNat = c := by decide +kernel
theorem zs_sh {c : Nat} (hc : c < 64) (h : Int64) (d : Nat) : zs_in ((h.toUInt64 >>> ((nI c : Int32).toInt64.toUInt64 &&& Int64.toUInt64 63)).toInt64) d = zs_in h (c + d) := by
  show ((h.toUInt64 >>> ((nI c : Int32).toInt64.toUInt64 &&& Int64.toUInt64 63)).toBitVec).getLsbD d = h.toBitVec.getLsbD (c + d)
  rw [UInt64.toBitVec_shiftRight, BitVec.ushiftRight_eq', zs_shv c hc, BitVec.getLsbD_ushiftRight]
  rfl
theorem zs_one (d : Nat) : zs_in 1 d = decide (d = 0) := by
  have e : (1 : Int64) = j_X2_bit (nI 0) := by decide +kernel
  rw [e]; exact zs_bit (by decide) d
theorem zs_has {c : Nat} (hc : c < 64) (h : Int64) : j_X2_has h (nI c) = 0 ↔ zs_in h c = false := by
  have e : (lg_cmp (((h.toUInt64 >>> ((nI c : Int32).toInt64.toUInt64 &&& Int64.toUInt64 63)).toInt64) &&& 1) 0 = 0) ↔ zs_in h c = false := by
    rw [zs_cmp]
    constructor
    · intro k
      have := k 0 (by decide)
      rw [zs_and, zs_sh hc, zs_one] at this
      simpa using this
    · intro k d _
      rw [zs_and, zs_sh hc, zs_one]
      by_cases q : d = 0
      · subst q; simp [k]
      · simp [q]
  exact zs_ifc e (by decide)
theorem zs_datedv : ∀ c, c < 64 → zs_in 1099511627775 c = decide (c < 40) := by decide +kernel
theorem zs_allv : ∀ p, p < 4 → ∀ c, c < 64 → zs_in (j_X2_allOf (nI p)) c = decide (c / 10 = p) := by decide +kernel
theorem zs_dated (h : Int64) : lg_cmp (h &&& 1099511627775) 0 = 0 ↔ ∀ c, c < 40 → zs_in h c = false := by
  rw [zs_cmp]
  constructor
  · intro k c hc
    have := k c (by omega)
    rw [zs_and, zs_datedv c (by omega)] at this
    simpa [hc] using this
  · intro k c hc
    rw [zs_and, zs_datedv c hc]
    by_cases q : c < 40
    · simp [k c q]
    · simp [q]
theorem zs_suit {p : Nat} (hp : p < 4) (h : Int64) : lg_cmp (h &&& (j_X2_allOf (nI p))) 0 = 0 ↔ ∀ c, c < 40 → c / 10 = p → zs_in h c = false := by
  rw [zs_cmp]
  constructor
  · intro k c hc hq
    have := k c (by omega)
    rw [zs_and, zs_allv p hp c (by omega)] at this
    simpa [hq] using this
  · intro k c hc
    rw [zs_and, zs_allv p hp c hc]
    by_cases q : c / 10 = p
    · simp [k c (by omega) q]
    · simp [q]
/-- how many of the 42 -/
def zs_ct (h : Int64) : Nat := fb_ct (zs_in h) 42
def zs_w (h : Int64) : Prop := ∀ c, 42 ≤ c → zs_in h c = false
theorem zs_ct_add {c : Nat} (hc : c < 42) {h : Int64} (hi : zs_in h c = false) : zs_ct (h ||| (j_X2_bit (nI c))) = zs_ct h + 1 := by
  unfold zs_ct
  have k := fb_ct_upd (zs_in h) true hc
  rw [hi] at k
  have e : fb_ct (zs_in (h ||| (j_X2_bit (nI c)))) 42 = fb_ct (fun k => if k = c then true else zs_in h k) 42 :=
    fb_ct_cong (fun d _ => by
      rw [zs_add (by omega)]
      by_cases q : d = c
      · simp [q]
      · simp [q])
  rw [e]
  simpa using k
theorem zs_ct_nil {h : Int64} (hw : zs_w h) : zs_ct h = 0 ↔ h = 0 := by
  unfold zs_ct
  rw [fb_ct_zero, zs_nil]
  constructor
  · intro k c _
    rcases Nat.lt_or_ge c 42 with q | q
    · exact k c q
    · exact hw c q
  · intro k c hc
    exact k c (by omega)
theorem zs_some {h : Int64} (hw : zs_w h) (h0 : ¬ h = 0) : ∃ c, c < 42 ∧ zs_in h c = true := by
  have k : 0 < zs_ct h := Nat.pos_of_ne_zero (fun e => h0 ((zs_ct_nil hw).mp e))
  exact fb_ct_pos.mp k
/-- what may be led, what may be answered -/
def zs_sE (h : Int64) (p : Nat) : Prop := ∃ d, d < 40 ∧ d / 10 = p ∧ zs_in h d = true
def zs_lead (h : Int64) (c : Nat) : Prop := c < 40 ∨ ∀ d, d < 40 → zs_in h d = false
def zs_fol (h : Int64) (t l c : Nat) : Prop := 40 ≤ l ∨ (zs_sE h (l / 10) ∧ c < 40 ∧ c / 10 = l / 10) ∨ (¬ zs_sE h (l / 10) ∧ zs_sE h t ∧ c < 40 ∧ c / 10 = t) ∨ (¬ zs_sE h (l / 10) ∧ ¬ zs_sE h t)
theorem zs_suitE {p : Nat} (hp : p < 4) (h : Int64) : lg_cmp (h &&& (j_X2_allOf (nI p))) 0 = 0 ↔ ¬ zs_sE h p := by
  rw [zs_suit hp]
  constructor
  · intro k ⟨d, h1, h2, h3⟩
    rw [k d h1 h2] at h3
    exact absurd h3 (by decide)
  · intro k c hc hq
    cases e : zs_in h c with
    | false => rfl
    | true => exact absurd ⟨c, hc, hq, e⟩ k
theorem zs_mil : ∀ c, c < 42 → (j_X2_isMildew (nI c) = 0 ↔ c < 40) := by decide +kernel
theorem zs_div : ∀ c, c < 42 → nI c / 10 = nI (c / 10) := by decide +kernel
theorem zs_rl {h : Int64} {c : Nat} (hc : c < 42) : j_X2_reasonAgainstLeading h (nI c) = 0 ↔ zs_lead h c := by
  unfold j_X2_reasonAgainstLeading zs_lead
  by_cases q : c < 40
  · rw [if_pos ((zs_mil c hc).mpr q)]
    exact ⟨fun _ => Or.inl q, fun _ => rfl⟩
  · rw [if_neg (fun e => q ((zs_mil c hc).mp e))]
    refine (zs_ifc (zs_dated h) (by decide)).trans ⟨Or.inr, fun k => ?_⟩
    rcases k with k | k
    · exact absurd k q
    · exact k
theorem zs_hasA {p c : Nat} (hp : p < 4) (hc : c < 42) {h : Int64} (hi : zs_in h c = true) : j_X2_has (h &&& (j_X2_allOf (nI p))) (nI c) = 0 ↔ ¬ (c < 40 ∧ c / 10 = p) := by
  rw [zs_has (by omega), zs_and, zs_allv p hp c (by omega), hi]
  constructor
  · intro k ⟨_, e⟩
    simp [e] at k
  · intro k
    have : ¬ c / 10 = p := fun e => k ⟨by omega, e⟩
    simp [this]
theorem zs_rf {h : Int64} {c l t : Nat} (hc : c < 42) (hl : l < 42) (ht : t < 4) (hi : zs_in h c = true) : j_X2_reasonAgainstReplying h (nI c) (nI l) (nI t) = 0 ↔ zs_fol h t l c := by
  unfold j_X2_reasonAgainstReplying zs_fol
  by_cases q : l < 40
  · rw [if_pos ((zs_mil l hl).mpr q), zs_div l hl]
    have hp : l / 10 < 4 := by omega
    by_cases s : zs_sE h (l / 10)
    · rw [if_neg (fun e => (zs_suitE hp h).mp e s)]
      by_cases u : c < 40 ∧ c / 10 = l / 10
      · rw [if_neg (fun e => (zs_hasA hp hc hi).mp e u)]
        exact ⟨fun _ => Or.inr (Or.inl ⟨s, u⟩), fun _ => rfl⟩
      · rw [if_pos ((zs_hasA hp hc hi).mpr u)]
        refine ⟨fun e => absurd e (by decide), fun e => ?_⟩
        rcases e with e | e | e | e
        · omega
        · exact absurd e.2 u
        · exact absurd s e.1
        · exact absurd s e.1
    · rw [if_pos ((zs_suitE hp h).mpr s)]
      by_cases v : zs_sE h t
      · rw [if_neg (fun e => (zs_suitE ht h).mp e v)]
        by_cases u : c < 40 ∧ c / 10 = t
        · rw [if_neg (fun e => (zs_hasA ht hc hi).mp e u)]
          exact ⟨fun _ => Or.inr (Or.inr (Or.inl ⟨s, v, u⟩)), fun _ => rfl⟩
        · rw [if_pos ((zs_hasA ht hc hi).mpr u)]
          refine ⟨fun e => absurd e (by decide), fun e => ?_⟩
          rcases e with e | e | e | e
          · omega
          · exact absurd e.1 s
          · exact absurd e.2.2 u
          · exact absurd v e.2
      · rw [if_pos ((zs_suitE ht h).mpr v)]
        exact ⟨fun _ => Or.inr (Or.inr (Or.inr ⟨s, v⟩)), fun _ => rfl⟩
  · rw [if_neg (fun e => q ((zs_mil l hl).mp e))]
    exact ⟨fun _ => Or.inl (by omega), fun _ => rfl⟩
theorem zs_nm1 : ∀ l, l < 42 → ¬ nI l = (-1) := by decide +kernel
theorem zs_leadE {h : Int64} (hw : zs_w h) (h0 : ¬ h = 0) : ∃ c, c < 42 ∧ zs_in h c = true ∧ zs_lead h c := by
  by_cases q : ∃ d, d < 40 ∧ zs_in h d = true
  · obtain ⟨d, hd, hi⟩ := q
    exact ⟨d, by omega, hi, Or.inl hd⟩
  · obtain ⟨c, hc, hi⟩ := zs_some hw h0
    refine ⟨c, hc, hi, Or.inr (fun d hd => ?_)⟩
    cases e : zs_in h d with
    | false => rfl
    | true => exact absurd ⟨d, hd, e⟩ q
theorem zs_folE {h : Int64} (hw : zs_w h) (h0 : ¬ h = 0) (t l : Nat) : ∃ c, c < 42 ∧ zs_in h c = true ∧ zs_fol h t l c := by
  obtain ⟨c, hc, hi⟩ := zs_some hw h0
  by_cases q : 40 ≤ l
  · exact ⟨c, hc, hi, Or.inl q⟩
  · by_cases s : zs_sE h (l / 10)
    · obtain ⟨d, h1, h2, h3⟩ := s
      exact ⟨d, by omega, h3, Or.inr (Or.inl ⟨⟨d, h1, h2, h3⟩, h1, h2⟩)⟩
    · by_cases v : zs_sE h t
      · obtain ⟨d, h1, h2, h3⟩ := v
        exact ⟨d, by omega, h3, Or.inr (Or.inr (Or.inl ⟨s, ⟨d, h1, h2, h3⟩, h1, h2⟩))⟩
      · exact ⟨c, hc, hi, Or.inr (Or.inr (Or.inr ⟨s, v⟩))⟩
theorem zs_ct64 {a : Int64} (hw : zs_w a) : fb_ct (zs_in a) 64 = zs_ct a := by
  have e := fb_ct_split (zs_in a) 42 22
  have z : fb_ct (fun k => zs_in a (42 + k)) 22 = 0 := fb_ct_zero.mpr (fun k _ => hw _ (by omega))
  rw [z] at e
  exact e
theorem zm_fl {a b : Nat} (h : a + b = 1) : 1 - nI a = nI b := by
  have : (a = 0 ∧ b = 1) ∨ (a = 1 ∧ b = 0) := by omega
  rcases this with ⟨h1, h2⟩ | ⟨h1, h2⟩
  · subst h1; subst h2; decide
  · subst h1; subst h2; decide
section ZM
variable {held : Nat → Int32} {cd : Nat → Nat → Nat} {nn : Nat → Nat}
theorem zm_mil3 : ∀ c, c < 42 → (j_X3_isMildew (nI c) = 0 ↔ c < 40) := by decide +kernel
theorem zm_prov : ∀ c, c < 42 → j_X3_provenance (nI c) = nI (c / 10) := by decide +kernel
theorem zm_rem : ∀ c, c < 42 → nI c - nI c / 10 * 10 = nI (c % 10) := by decide +kernel
theorem zm_trump {t c : Nat} (ht : t < 4) (hc : c < 42) : j_X3_isTrump (nI t) (nI c) = 0 ↔ ¬ (c < 40 ∧ c / 10 = t) := by
  unfold j_X3_isTrump
  by_cases q : c < 40
  · rw [if_pos ((zm_mil3 c hc).mpr q), zm_prov c hc]
    by_cases r : c / 10 = t
    · rw [if_pos (by rw [r])]
      exact ⟨fun e => absurd e (by decide), fun e => absurd ⟨q, r⟩ e⟩
    · rw [if_neg (fun e => r ((nI_eq (by omega) (by omega)).mp e))]
      exact ⟨fun _ k => r k.2, fun _ => rfl⟩
  · rw [if_neg (fun e => q ((zm_mil3 c hc).mp e))]
    exact ⟨fun _ k => q k.1, fun _ => rfl⟩
end ZM
theorem zm_worth (x g : Int32) : j_X3_worthTo x g = j_X2_worth x g := by
  unfold j_X3_worthTo j_X3_worth j_X2_worth j_X3_isMildew j_X2_isMildew
  by_cases h : x < 40
  · simp [h]
  · by_cases k : g = 0
    · simp [h, k]
    · simp [h, k]
theorem zm_takes {t c l : Nat} (ht : t < 4) (hc : c < 42) (hl : l < 42) : j_X3_takes (nI t) (nI c) (nI l) = 0 ↔ j_X2_beats (nI c) (nI l) (nI t) = 0 := by
  unfold j_X3_takes j_X2_beats
  by_cases q : l < 40
  · rw [if_pos ((zm_mil3 l hl).mpr q), if_pos ((zs_mil l hl).mpr q)]
    by_cases u : c < 40
    · rw [if_pos ((zm_mil3 c hc).mpr u), if_pos ((zs_mil c hc).mpr u), zm_prov l hl, zm_prov c hc, zm_rem l hl, zm_rem c hc, zs_div c hc, zs_div l hl]
      by_cases v : c / 10 = l / 10
      · have v1 : nI (l / 10) = nI (c / 10) := by rw [v]
        have v2 : nI (c / 10) = nI (l / 10) := by rw [v]
        rw [if_pos v1, if_pos v2]
        by_cases w : l ≤ c
        · have w1 : nI (l % 10) ≤ nI (c % 10) := (nI_leI (by omega) (by omega)).mpr (by omega)
          have w2 : nI l ≤ nI c := (nI_leI (by omega) (by omega)).mpr w
          rw [if_pos w1, if_pos w2]
        · have w1 : ¬ nI (l % 10) ≤ nI (c % 10) := fun e => w (by have := (nI_leI (by omega) (by omega)).mp e; omega)
          have w2 : ¬ nI l ≤ nI c := fun e => w ((nI_leI (by omega) (by omega)).mp e)
          rw [if_neg w1, if_neg w2]
      · have v1 : ¬ nI (l / 10) = nI (c / 10) := fun e => v ((nI_eq (by omega) (by omega)).mp e).symm
        have v2 : ¬ nI (c / 10) = nI (l / 10) := fun e => v ((nI_eq (by omega) (by omega)).mp e)
        rw [if_neg v1, if_neg v2]
        by_cases w : c / 10 = t
        · have w1 : nI (c / 10) = nI t := by rw [w]
          rw [if_neg (fun e => (zm_trump ht hc).mp e ⟨u, w⟩), if_pos ((zm_trump ht hl).mpr (fun k => v (w.trans k.2.symm))), if_pos w1]
        · have w1 : ¬ nI (c / 10) = nI t := fun e => w ((nI_eq (by omega) (by omega)).mp e)
          rw [if_pos ((zm_trump ht hc).mpr (fun k => w k.2)), if_neg w1]
    · rw [if_neg (fun e => u ((zm_mil3 c hc).mp e)), if_neg (fun e => u ((zs_mil c hc).mp e))]
  · rw [if_neg (fun e => q ((zm_mil3 l hl).mp e))]
    by_cases u : c < 40
    · rw [if_pos ((zm_mil3 c hc).mpr u), if_pos ((zs_mil c hc).mpr u), if_neg (fun e => q ((zs_mil l hl).mp e))]
    · rw [if_neg (fun e => u ((zm_mil3 c hc).mp e)), if_neg (fun e => u ((zs_mil c hc).mp e))]
abbrev zl_p (up : Nat → Int32) (a : Nat) : Nat → Bool := fun c => decide (up c = nI a)
abbrev zl_nn (up : Nat → Int32) (a : Nat) : Nat := fb_ct (zl_p up a) 42
theorem zl_hm4 (up : Nat → Int32) (a : Nat) {ud : Int32} (hu : ¬ ud = 0) : ∀ (n i y : Nat), i + n ≤ 42 → y = fb_ct (zl_p up a) i → j_X3_howMany_4 up ud (nI a) n i (nI y) = nI (fb_ct (zl_p up a) (i + n))
  | 0, i, y, _, e => by
    show nI y = _
    rw [e]; rfl
  | n + 1, i, y, h, e => by
    rw [j_X3_howMany_4, if_neg hu, nI_clamp (by omega), show i + (n + 1) = i + 1 + n by omega]
    have e2 : y ≤ 42 := by rw [e]; exact Nat.le_trans (fb_ct_le _ i) (by omega)
    by_cases c : up i = nI a
    · have k : zl_p up a i = true := by simp [zl_p, c]
      rw [if_pos c, nI_1]
      exact zl_hm4 up a hu n (i + 1) (y + 1) (by omega) (by rw [fb_ct_succ, if_pos k, e])
    · have k : ¬ zl_p up a i = true := by simp [zl_p, c]
      rw [if_neg c, show nI y + 0 = nI y from Int32.add_zero _]
      exact zl_hm4 up a hu n (i + 1) y (by omega) (by rw [fb_ct_succ, if_neg k, e]; rfl)
theorem zl_hm (up : Nat → Int32) (a : Nat) {ud : Int32} (hu : ¬ ud = 0) : j_X3_howMany up ud (nI a) = nI (zl_nn up a) := by
  have := zl_hm4 up a hu 42 0 0 (by decide) rfl
  exact this
theorem zl_hct (up : Nat → Int32) {a : Nat} {h : Int64} (hh : ∀ c, zs_in h c = (decide (c < 42) && zl_p up a c)) : zs_ct h = zl_nn up a :=
  fb_ct_cong (fun c hc => by rw [hh]; simp [hc])
theorem zl_hw (up : Nat → Int32) {a : Nat} {h : Int64} (hh : ∀ c, zs_in h c = (decide (c < 42) && zl_p up a c)) : zs_w h := by
  intro c hc
  rw [hh]
  have : ¬ c < 42 := by omega
  simp [this]
abbrev zr_hand (up : Nat → Int32) (a : Nat) (h : Int64) : Prop := ∀ c, zs_in h c = (decide (c < 42) && zl_p up a c)
theorem zh_of5 (up : Nat → Int32) (x0 : Int32) {p : Nat} (hp : p < 100) : ∀ (n i : Nat) (y : Int32), i + n ≤ 40 → (j_X3_hasOf_5 up x0 (nI p) n i y = 0 ↔ (y = 0 ∧ ∀ c, i ≤ c → c < i + n → ¬ (up c = x0 ∧ c / 10 = p)))
  | 0, i, y, _ => by
    show y = 0 ↔ _
    exact ⟨fun h => ⟨h, fun c h1 h2 => by omega⟩, fun h => h.1⟩
  | n + 1, i, y, hi => by
    have ih := fun y => zh_of5 up x0 hp n (i + 1) y (by omega)
    rw [j_X3_hasOf_5, nI_clamp (by omega), zm_prov i (by omega)]
    have lift : (∀ c, i + 1 ≤ c → c < i + 1 + n → ¬ (up c = x0 ∧ c / 10 = p)) → ¬ (up i = x0 ∧ i / 10 = p) → ∀ c, i ≤ c → c < i + (n + 1) → ¬ (up c = x0 ∧ c / 10 = p) := by
      intro h1 h2 c hc1 hc2
      rcases Nat.lt_or_ge i c with q | q
      · exact h1 c q (by omega)
      · have : c = i := by omega
        subst this
        exact h2
    have low : (∀ c, i ≤ c → c < i + (n + 1) → ¬ (up c = x0 ∧ c / 10 = p)) → ∀ c, i + 1 ≤ c → c < i + 1 + n → ¬ (up c = x0 ∧ c / 10 = p) := fun h c h1 h2 => h c (by omega) (by omega)
    by_cases y0 : y = 0
    · rw [if_pos y0]
      by_cases u : up i = x0
      · rw [if_pos u]
        by_cases v : i / 10 = p
        · have v' : nI (i / 10) = nI p := by rw [v]
          rw [if_pos v', ih 1]
          exact ⟨fun k => absurd k.1 (by decide), fun k => absurd ⟨u, v⟩ (k.2 i (Nat.le_refl _) (by omega))⟩
        · have v' : ¬ nI (i / 10) = nI p := fun e => v ((nI_eq (by omega) (by omega)).mp e)
          rw [if_neg v', ih 0]
          exact ⟨fun k => ⟨y0, lift k.2 (fun w => v w.2)⟩, fun k => ⟨rfl, low k.2⟩⟩
      · rw [if_neg u, ih 0]
        exact ⟨fun k => ⟨y0, lift k.2 (fun w => u w.1)⟩, fun k => ⟨rfl, low k.2⟩⟩
    · rw [if_neg y0, ih 1]
      exact ⟨fun k => absurd k.1 (by decide), fun k => absurd k.1 y0⟩
theorem zh_of {up : Nat → Int32} {a p : Nat} {h : Int64} (hp : p < 100) (hh : zr_hand up a h) : j_X3_hasOf up (nI a) (nI p) = 0 ↔ ¬ zs_sE h p := by
  refine (zh_of5 up (nI a) hp 40 0 0 (by decide)).trans ⟨fun k => ?_, fun k => ⟨rfl, fun c _ hc w => k ⟨c, by omega, w.2, ?_⟩⟩⟩
  · rintro ⟨d, h1, h2, h3⟩
    rw [hh] at h3
    simp [zl_p] at h3
    exact k.2 d (Nat.zero_le _) (by omega) ⟨h3.2, h2⟩
  · rw [hh]
    have : c < 42 := by omega
    simp [zl_p, this, w.1]
theorem zh_dated {up : Nat → Int32} {a : Nat} {h : Int64} (hh : zr_hand up a h) : j_X3_hasDated up (nI a) = 0 ↔ ∀ c, c < 40 → zs_in h c = false := by
  have e0 : j_X3_hasOf up (nI a) 0 = 0 ↔ ¬ zs_sE h 0 := zh_of (by decide) hh
  have e1 : j_X3_hasOf up (nI a) 1 = 0 ↔ ¬ zs_sE h 1 := zh_of (by decide) hh
  have e2 : j_X3_hasOf up (nI a) 2 = 0 ↔ ¬ zs_sE h 2 := zh_of (by decide) hh
  have e3 : j_X3_hasOf up (nI a) 3 = 0 ↔ ¬ zs_sE h 3 := zh_of (by decide) hh
  have some : ∀ p, zs_sE h p → ¬ ∀ c, c < 40 → zs_in h c = false := by
    rintro p ⟨d, h1, _, h3⟩ k
    rw [k d h1] at h3
    exact absurd h3 (by decide)
  unfold j_X3_hasDated
  by_cases s0 : zs_sE h 0
  · rw [if_neg (fun e => e0.mp e s0)]
    exact ⟨fun e => absurd e (by decide), fun k => absurd k (some 0 s0)⟩
  · rw [if_pos (e0.mpr s0)]
    by_cases s1 : zs_sE h 1
    · rw [if_neg (fun e => e1.mp e s1)]
      exact ⟨fun e => absurd e (by decide), fun k => absurd k (some 1 s1)⟩
    · rw [if_pos (e1.mpr s1)]
      by_cases s2 : zs_sE h 2
      · rw [if_neg (fun e => e2.mp e s2)]
        exact ⟨fun e => absurd e (by decide), fun k => absurd k (some 2 s2)⟩
      · rw [if_pos (e2.mpr s2)]
        by_cases s3 : zs_sE h 3
        · rw [if_neg (fun e => e3.mp e s3)]
          exact ⟨fun e => absurd e (by decide), fun k => absurd k (some 3 s3)⟩
        · rw [if_pos (e3.mpr s3)]
          refine ⟨fun _ c hc => ?_, fun _ => rfl⟩
          cases r : zs_in h c with
          | false => rfl
          | true =>
            have : c / 10 = 0 ∨ c / 10 = 1 ∨ c / 10 = 2 ∨ c / 10 = 3 := by omega
            rcases this with q | q | q | q
            · exact absurd ⟨c, hc, q, r⟩ s0
            · exact absurd ⟨c, hc, q, r⟩ s1
            · exact absurd ⟨c, hc, q, r⟩ s2
            · exact absurd ⟨c, hc, q, r⟩ s3
theorem zr_mh {up : Nat → Int32} {a : Nat} {vh1 vh2 : Int64} (ha : a < 2) (h1 : zr_hand up 0 vh1) (h2 : zr_hand up 1 vh2) : zr_hand up a (j_X2_moversHand (nI a) vh1 vh2) := by
  have : a = 0 ∨ a = 1 := by omega
  rcases this with e | e
  · subst e
    unfold j_X2_moversHand
    rw [if_pos (by decide)]
    exact h1
  · subst e
    unfold j_X2_moversHand
    rw [if_neg (by decide)]
    exact h2
def zr_led (led : Int32) : Prop := led = (-1) ∨ ∃ l, l < 42 ∧ led = nI l
theorem zr_why1 {up : Nat → Int32} {a t c : Nat} {vdrawn udrawn ud uon led : Int32} {vh1 vh2 : Int64} (ha : a < 2) (ht : t < 4) (hc : c < 42) (h1 : zr_hand up 0 vh1) (h2 : zr_hand up 1 vh2) (hon : ¬ uon = 0) (hl : zr_led led) (hp : 42 ≤ vdrawn ↔ ¬ 0 < j_X3_inPile udrawn ud) :
    j_X3_why up udrawn ud uon (nI a) led (nI t) (nI c) = j_X2_reasonAgainst vdrawn (nI t) led (nI a) vh1 vh2 (nI c) := by
  have hm := zr_mh ha h1 h2
  unfold j_X3_why j_X2_reasonAgainst
  have a1 : ¬ nI a = (-1) := zs_nm1 a (by omega)
  rw [if_neg hon, if_neg a1, nI_clamp (by omega)]
  generalize j_X2_moversHand (nI a) vh1 vh2 = h at hm
  by_cases u : up c = nI a
  · have hi : zs_in h c = true := by rw [hm]; simp [zl_p, hc, u]
    have hn : ¬ j_X2_has h (nI c) = 0 := fun e => by
      rw [(zs_has (by omega) h).mp e] at hi
      exact absurd hi (by decide)
    rw [if_pos u, if_neg hn]
    rcases hl with hl | ⟨l, hl, e⟩
    · subst hl
      rw [if_neg (by decide), if_pos rfl]
      unfold j_X2_reasonAgainstLeading
      by_cases q : c < 40
      · rw [if_pos ((zm_mil3 c hc).mpr q), if_pos ((zs_mil c hc).mpr q)]
      · rw [if_neg (fun e => q ((zm_mil3 c hc).mp e)), if_neg (fun e => q ((zs_mil c hc).mp e))]
        by_cases s : ∀ c, c < 40 → zs_in h c = false
        · rw [if_pos ((zh_dated hm).mpr s), if_pos ((zs_dated h).mpr s)]
        · rw [if_neg (fun e => s ((zh_dated hm).mp e)), if_neg (fun e => s ((zs_dated h).mp e))]
    · subst e
      rw [if_pos (nI_pos' (by omega)), if_neg (zs_nm1 l hl)]
      by_cases pl : 0 < j_X3_inPile udrawn ud
      · rw [if_pos pl, if_neg (fun e => hp.mp e pl)]
      · rw [if_neg pl, if_pos (hp.mpr pl)]
        unfold j_X2_reasonAgainstReplying
        by_cases q : l < 40
        · have hp4 : l / 10 < 4 := by omega
          rw [if_pos ((zm_mil3 l hl).mpr q), if_pos ((zs_mil l hl).mpr q), zm_prov l hl, zs_div l hl]
          by_cases s : zs_sE h (l / 10)
          · rw [if_neg (fun e => (zh_of (by omega) hm).mp e s), if_neg (fun e => (zs_suitE hp4 h).mp e s)]
            by_cases w : c < 40 ∧ c / 10 = l / 10
            · have w2 : nI (c / 10) = nI (l / 10) := by rw [w.2]
              rw [if_pos ((zm_mil3 c hc).mpr w.1), zm_prov c hc, if_pos w2, if_neg (fun e => (zs_hasA hp4 hc hi).mp e w)]
            · rw [if_pos ((zs_hasA hp4 hc hi).mpr w)]
              by_cases w1 : c < 40
              · have w2 : ¬ nI (c / 10) = nI (l / 10) := fun e => w ⟨w1, (nI_eq (by omega) (by omega)).mp e⟩
                rw [if_pos ((zm_mil3 c hc).mpr w1), zm_prov c hc, if_neg w2]
              · rw [if_neg (fun e => w1 ((zm_mil3 c hc).mp e))]
          · rw [if_pos ((zh_of (by omega) hm).mpr s), if_pos ((zs_suitE hp4 h).mpr s)]
            by_cases v : zs_sE h t
            · rw [if_neg (fun e => (zh_of (by omega) hm).mp e v), if_neg (fun e => (zs_suitE ht h).mp e v)]
              by_cases w : c < 40 ∧ c / 10 = t
              · rw [if_neg (fun e => (zm_trump ht hc).mp e w), if_neg (fun e => (zs_hasA ht hc hi).mp e w)]
              · rw [if_pos ((zm_trump ht hc).mpr w), if_pos ((zs_hasA ht hc hi).mpr w)]
            · rw [if_pos ((zh_of (by omega) hm).mpr v), if_pos ((zs_suitE ht h).mpr v)]
        · rw [if_neg (fun e => q ((zm_mil3 l hl).mp e)), if_neg (fun e => q ((zs_mil l hl).mp e))]
  · have hi : zs_in h c = false := by rw [hm]; simp [zl_p, u]
    rw [if_neg u, if_pos ((zs_has (by omega) h).mpr hi)]
theorem zr_why0 {up : Nat → Int32} {vdrawn udrawn ud uon uturn vtr utr vled uled vmov x : Int32} {vh1 vh2 : Int64} (hon : uon = 0) (hm : vmov = (-1)) : j_X3_why up udrawn ud uon uturn uled utr x = j_X2_reasonAgainst vdrawn vtr vled vmov vh1 vh2 x := by
  unfold j_X3_why j_X2_reasonAgainst
  rw [if_pos hon, if_pos hm]
def zc_dig (f : Nat → Nat) : Nat → Nat
  | 0 => 0
  | n + 1 => f 0 + 256 * zc_dig (fun k => f (k + 1)) n
theorem zc_and {a A m M : Nat} (ha : a < 256) (hm : m < 256) : (a + 256 * A) &&& (m + 256 * M) = (a &&& m) + 256 * (A &&& M) := by
  have h1 := Nat.and_div_two_pow (a := a + 256 * A) (b := m + 256 * M) (n := 8)
  have h2 := Nat.and_mod_two_pow (a := a + 256 * A) (b := m + 256 * M) (n := 8)
  have e : (2 : Nat) ^ 8 = 256 := by decide
  rw [e] at h1 h2
  rw [show (a + 256 * A) / 256 = A by omega, show (m + 256 * M) / 256 = M by omega] at h1
  rw [show (a + 256 * A) % 256 = a by omega, show (m + 256 * M) % 256 = m by omega] at h2
  omega
theorem zc_digA (f : Nat → Nat) (m : Nat) (hm : m < 256) : ∀ (n : Nat) (f : Nat → Nat), (∀ k, k < n → f k < 256) → zc_dig f n &&& zc_dig (fun _ => m) n = zc_dig (fun k => f k &&& m) n
  | 0, _, _ => by
    show 0 &&& 0 = 0
    decide
  | n + 1, f, h => by
    show (f 0 + 256 * zc_dig (fun k => f (k + 1)) n) &&& (m + 256 * zc_dig (fun _ => m) n) = (f 0 &&& m) + 256 * zc_dig (fun k => f (k + 1) &&& m) n
    rw [zc_and (h 0 (by omega)) hm, zc_digA f m hm n (fun k => f (k + 1)) (fun k hk => h (k + 1) (by omega))]
theorem zc_sh {a A m M s : Nat} (ha : a < 256) (hs : s < 8) (hm : m < 2 ^ (8 - s)) : ((a + 256 * A) / 2 ^ s) &&& (m + 256 * M) = (a / 2 ^ s &&& m) + 256 * ((A / 2 ^ s) &&& M) := by
  have hm8 : m < 256 := by
    have : 2 ^ (8 - s) ≤ 2 ^ 8 := Nat.pow_le_pow_right (by decide) (by omega)
    have e : (2 : Nat) ^ 8 = 256 := by decide
    omega
  have e8 : (256 : Nat) = 2 ^ s * 2 ^ (8 - s) := by rw [← Nat.pow_add, show s + (8 - s) = 8 by omega]
  have hp : 0 < 2 ^ s := Nat.two_pow_pos s
  have hq : 0 < 2 ^ (8 - s) := Nat.two_pow_pos _
  have d1 : (a + 256 * A) / 2 ^ s = a / 2 ^ s + 2 ^ (8 - s) * A := by
    rw [e8, Nat.mul_assoc, Nat.add_mul_div_left _ _ hp]
  have la : a / 2 ^ s < 2 ^ (8 - s) := (Nat.div_lt_iff_lt_mul hp).mpr (by rw [Nat.mul_comm, ← e8]; exact ha)
  -- the low byte of it
  have lo : (a / 2 ^ s + 2 ^ (8 - s) * A) % 256 &&& m = a / 2 ^ s &&& m := by
    apply Nat.eq_of_testBit_eq
    intro i
    rw [Nat.testBit_and, Nat.testBit_and]
    rcases Nat.lt_or_ge i (8 - s) with h | h
    · have t : ((a / 2 ^ s + 2 ^ (8 - s) * A) % 256).testBit i = (a / 2 ^ s).testBit i := by
        rw [show (256 : Nat) = 2 ^ 8 from rfl, Nat.testBit_mod_two_pow]
        have i8 : i < 8 := by omega
        rw [decide_eq_true i8, Bool.true_and, Nat.add_comm, Nat.testBit_two_pow_mul_add _ la]
        rw [if_pos h]
      rw [t]
    · have : m.testBit i = false := Nat.testBit_lt_two_pow (Nat.lt_of_lt_of_le hm (Nat.pow_le_pow_right (by decide) h))
      rw [this, Bool.and_false, Bool.and_false]
  have h1 := Nat.and_div_two_pow (a := a / 2 ^ s + 2 ^ (8 - s) * A) (b := m + 256 * M) (n := 8)
  have h2 := Nat.and_mod_two_pow (a := a / 2 ^ s + 2 ^ (8 - s) * A) (b := m + 256 * M) (n := 8)
  have e : (2 : Nat) ^ 8 = 256 := by decide
  rw [e] at h1 h2
  have d2 : (a / 2 ^ s + 2 ^ (8 - s) * A) / 256 = A / 2 ^ s := by
    rw [← d1, Nat.div_div_eq_div_mul, Nat.mul_comm (2 ^ s) 256, ← Nat.div_div_eq_div_mul, show (a + 256 * A) / 256 = A by omega]
  rw [d2, show (m + 256 * M) / 256 = M by omega] at h1
  rw [show (m + 256 * M) % 256 = m by omega, lo] at h2
  rw [d1]
  omega
theorem zc_digS (m s : Nat) (hs : s < 8) (hm : m < 2 ^ (8 - s)) : ∀ (n : Nat) (f : Nat → Nat), (∀ k, k < n → f k < 256) → (zc_dig f n / 2 ^ s) &&& zc_dig (fun _ => m) n = zc_dig (fun k => f k / 2 ^ s &&& m) n
  | 0, f, _ => by
    show (0 / 2 ^ s) &&& 0 = 0
    rw [Nat.and_zero]
  | n + 1, f, h => by
    show ((f 0 + 256 * zc_dig (fun k => f (k + 1)) n) / 2 ^ s) &&& (m + 256 * zc_dig (fun _ => m) n) = (f 0 / 2 ^ s &&& m) + 256 * zc_dig (fun k => f (k + 1) / 2 ^ s &&& m) n
    rw [zc_sh (h 0 (by omega)) hs hm, zc_digS m s hs hm n (fun k => f (k + 1)) (fun k hk => h (k + 1) (by omega))]
theorem zc_digAdd : ∀ (n : Nat) (f g : Nat → Nat), zc_dig f n + zc_dig g n = zc_dig (fun k => f k + g k) n
  | 0, _, _ => rfl
  | n + 1, f, g => by
    have ih := zc_digAdd n (fun k => f (k + 1)) (fun k => g (k + 1))
    show (f 0 + 256 * zc_dig (fun k => f (k + 1)) n) + (g 0 + 256 * zc_dig (fun k => g (k + 1)) n) = (f 0 + g 0) + 256 * zc_dig (fun k => f (k + 1) + g (k + 1)) n
    omega
theorem zc_digSub : ∀ (n : Nat) (f g : Nat → Nat), (∀ k, k < n → g k ≤ f k) → zc_dig f n - zc_dig g n = zc_dig (fun k => f k - g k) n ∧ zc_dig g n ≤ zc_dig f n
  | 0, _, _, _ => ⟨rfl, Nat.le_refl _⟩
  | n + 1, f, g, h => by
    obtain ⟨i1, i2⟩ := zc_digSub n (fun k => f (k + 1)) (fun k => g (k + 1)) (fun k hk => h (k + 1) (by omega))
    have h0 := h 0 (by omega)
    constructor
    · show (f 0 + 256 * zc_dig (fun k => f (k + 1)) n) - (g 0 + 256 * zc_dig (fun k => g (k + 1)) n) = (f 0 - g 0) + 256 * zc_dig (fun k => f (k + 1) - g (k + 1)) n
      omega
    · show g 0 + 256 * zc_dig (fun k => g (k + 1)) n ≤ f 0 + 256 * zc_dig (fun k => f (k + 1)) n
      omega
theorem zc_of : ∀ (n x : Nat), x < 256 ^ n → zc_dig (fun k => x / 256 ^ k % 256) n = x
  | 0, x, h => by
    have : x = 0 := by
      have e : (256 : Nat) ^ 0 = 1 := rfl
      omega
    subst this; rfl
  | n + 1, x, h => by
    have ih := zc_of n (x / 256) (by rw [Nat.pow_succ] at h; exact (Nat.div_lt_iff_lt_mul (by decide)).mpr h)
    show x / 256 ^ 0 % 256 + 256 * zc_dig (fun k => x / 256 ^ (k + 1) % 256) n = x
    have e : (fun k => x / 256 ^ (k + 1) % 256) = (fun k => x / 256 / 256 ^ k % 256) := by
      funext k
      rw [Nat.pow_succ, Nat.mul_comm, Nat.div_div_eq_div_mul]
    rw [e, ih, Nat.pow_zero, Nat.div_one]
    omega
abbrev zc_s1 (b : Nat) : Nat := b - (b / 2 ^ 1 &&& 85)
abbrev zc_s2 (b : Nat) : Nat := (zc_s1 b &&& 51) + (zc_s1 b / 2 ^ 2 &&& 51)
theorem zc_b1 : ∀ b, b < 256 → (b / 2 ^ 1 &&& 85) ≤ b ∧ zc_s1 b < 256 ∧ zc_s2 b < 256 ∧ (zc_s2 b + zc_s2 b / 2 ^ 4 < 256) ∧ zc_s2 b % 16 ≤ 4 ∧ zc_s2 b / 16 ≤ 4 ∧ zc_s2 b % 16 + zc_s2 b / 16 = fb_ct b.testBit 8 := by decide +kernel
/-- nibbles, at most 4 each: their sum in each byte -/
theorem zc_nib {a A M : Nat} (h1 : a % 16 ≤ 4) (h2 : a / 16 ≤ 4) (hA : A % 16 ≤ 4) : ((a + 256 * A) + (a + 256 * A) / 16) &&& (15 + 256 * M) = (a % 16 + a / 16) + 256 * ((A + A / 16) &&& M) := by
  have q : (a + 256 * A) + (a + 256 * A) / 16 = (a + a / 16 + 16 * (A % 16)) + 256 * (A + A / 16) := by omega
  have lt : a + a / 16 + 16 * (A % 16) < 256 := by omega
  rw [q, zc_and lt (by decide)]
  have : (a + a / 16 + 16 * (A % 16)) &&& 15 = a % 16 + a / 16 := by
    rw [show (15 : Nat) = 2 ^ 4 - 1 from rfl, Nat.and_two_pow_sub_one_eq_mod]
    omega
  rw [this]
theorem zc_digN : ∀ (n : Nat) (f : Nat → Nat), (∀ k, f k % 16 ≤ 4 ∧ f k / 16 ≤ 4 ∧ f k < 256) → zc_dig f n % 16 ≤ 4 ∧ (zc_dig f n + zc_dig f n / 16) &&& zc_dig (fun _ => 15) n = zc_dig (fun k => f k % 16 + f k / 16) n
  | 0, f, _ => ⟨by show 0 % 16 ≤ 4; decide, by show (0 + 0 / 16) &&& 0 = 0; decide⟩
  | n + 1, f, h => by
    obtain ⟨i1, i2⟩ := zc_digN n (fun k => f (k + 1)) (fun k => h (k + 1))
    have h0 := h 0
    constructor
    · show (f 0 + 256 * zc_dig (fun k => f (k + 1)) n) % 16 ≤ 4
      omega
    · show ((f 0 + 256 * zc_dig (fun k => f (k + 1)) n) + (f 0 + 256 * zc_dig (fun k => f (k + 1)) n) / 16) &&& (15 + 256 * zc_dig (fun _ => 15) n) = (f 0 % 16 + f 0 / 16) + 256 * zc_dig (fun k => f (k + 1) % 16 + f (k + 1) / 16) n
      rw [zc_nib h0.1 h0.2.1 i1, i2]
def zc_sm (f : Nat → Nat) : Nat → Nat
  | 0 => 0
  | n + 1 => zc_sm f n + f n
theorem zc_sm_succ (f : Nat → Nat) (n : Nat) : zc_sm f (n + 1) = zc_sm f n + f n := rfl
theorem zc_ct8 (x : Nat) : ∀ n, fb_ct x.testBit (8 * n) = zc_sm (fun k => fb_ct (x / 256 ^ k % 256).testBit 8) n
  | 0 => rfl
  | n + 1 => by
    rw [zc_sm_succ, ← zc_ct8 x n, show 8 * (n + 1) = 8 * n + 8 by omega, fb_ct_split]
    congr 1
    refine fb_ct_cong (fun k hk => ?_)
    rw [show (256 : Nat) = 2 ^ 8 from rfl, ← Nat.pow_mul, Nat.testBit_mod_two_pow, decide_eq_true hk, Bool.true_and, Nat.testBit_div_two_pow, Nat.add_comm]
/-- the whole count, on Nat -/
def zc_pop (x : Nat) : Nat :=
  let a := x - (x / 2 &&& 6148914691236517205)
  let b := (a &&& 3689348814741910323) + (a / 4 &&& 3689348814741910323)
  let d := (b + b / 16) &&& 1085102592571150095
  let e := d + d / 256
  let f := e + e / 65536
  let g := f + f / 4294967296
  g % 128
theorem zc_fin {p0 p1 p2 p3 p4 p5 p6 p7 d e f g : Nat} (h0 : p0 ≤ 8) (h1 : p1 ≤ 8) (h2 : p2 ≤ 8) (h3 : p3 ≤ 8) (h4 : p4 ≤ 8) (h5 : p5 ≤ 8) (h6 : p6 ≤ 8) (h7 : p7 ≤ 8)
    (hd : d = p0 + 256 * (p1 + 256 * (p2 + 256 * (p3 + 256 * (p4 + 256 * (p5 + 256 * (p6 + 256 * (p7 + 256 * 0)))))))) (he : e = d + d / 256) (hf : f = e + e / 65536) (hg : g = f + f / 4294967296) : g % 128 = p0 + p1 + p2 + p3 + p4 + p5 + p6 + p7 := by
  have x7 : ∃ r, r = p7 + 256 * 0 := ⟨_, rfl⟩
  obtain ⟨r7, e7⟩ := x7
  rw [← e7] at hd
  have x6 : ∃ r, r = p6 + 256 * r7 := ⟨_, rfl⟩
  obtain ⟨r6, e6⟩ := x6
  rw [← e6] at hd
  have x5 : ∃ r, r = p5 + 256 * r6 := ⟨_, rfl⟩
  obtain ⟨r5, e5⟩ := x5
  rw [← e5] at hd
  have x4 : ∃ r, r = p4 + 256 * r5 := ⟨_, rfl⟩
  obtain ⟨r4, e4⟩ := x4
  rw [← e4] at hd
  have x3 : ∃ r, r = p3 + 256 * r4 := ⟨_, rfl⟩
  obtain ⟨r3, e3⟩ := x3
  rw [← e3] at hd
  have x2 : ∃ r, r = p2 + 256 * r3 := ⟨_, rfl⟩
  obtain ⟨r2, e2⟩ := x2
  rw [← e2] at hd
  have x1 : ∃ r, r = p1 + 256 * r2 := ⟨_, rfl⟩
  obtain ⟨r1, e1⟩ := x1
  rw [← e1] at hd
  have q1 : d / 256 = r1 := by clear e1 e2 e3 e4 e5 e6 e7 he hf hg; omega
  have q2 : e = (p0 + p1) + 256 * (p1 + p2) + 65536 * (r2 + r3) := by rw [he, q1]; clear e3 e4 e5 e6 e7 he hf hg q1; omega
  have q3 : e / 65536 = r2 + r3 := by rw [q2]; clear e1 e2 e3 e4 e5 e6 e7 he hf hg hd q1 q2; omega
  have q4 : r2 + r3 = (p2 + p3) + 256 * (p3 + p4) + 65536 * (r4 + r5) := by clear e1 e5 e6 e7 he hf hg hd q1 q2 q3; omega
  have q5 : f = (p0 + p1 + p2 + p3) + 256 * (p1 + p2 + p3 + p4) + 65536 * ((r2 + r3) + (r4 + r5)) := by rw [hf, q3, q2]; clear e1 e2 e3 e4 e5 e6 e7 he hf hg hd q1 q2 q3; omega
  have q6 : r4 + r5 = (p4 + p5) + 256 * (p5 + p6) + 65536 * (r6 + r7) := by clear e1 e2 e3 e7 he hf hg hd q1 q2 q3 q4 q5; omega
  have q7 : f = (p0 + p1 + p2 + p3) + 256 * (p1 + p2 + p3 + p4) + 65536 * (p2 + p3 + p4 + p5) + 16777216 * (p3 + p4 + p5 + p6) + 4294967296 * ((r4 + r5) + (r6 + r7)) := by rw [q5, q4]; clear e1 e2 e3 e4 e5 e6 e7 he hf hg hd q1 q2 q3 q4 q5; omega
  have q8 : f / 4294967296 = (r4 + r5) + (r6 + r7) := by rw [q7]; clear e1 e2 e3 e4 e5 e6 e7 he hf hg hd q1 q2 q3 q4 q5 q6 q7; omega
  have q9 : g = (p0 + p1 + p2 + p3 + p4 + p5 + p6 + p7) + 128 * (2 * (p1 + p2 + p3 + p4) + 512 * (p2 + p3 + p4 + p5) + 131072 * (p3 + p4 + p5 + p6) + 33554432 * ((r4 + r5) + (r6 + r7)) + 2 * (p5 + p6) + 512 * (r6 + r7) + 2 * r7) := by
    rw [hg, q8, q7]; clear e1 e2 e3 e4 e5 he hf hg hd q1 q2 q3 q4 q5 q7 q8; omega
  rw [q9]; clear e1 e2 e3 e4 e5 e6 e7 he hf hg hd q1 q2 q3 q4 q5 q6 q7 q8 q9; omega
theorem zc_popq (x : Nat) (hx : x < 2 ^ 64) : zc_pop x = fb_ct x.testBit 64 := by
  have by8 : ∀ k, x / 256 ^ k % 256 < 256 := fun k => Nat.mod_lt _ (by decide)
  have ex := zc_of 8 x (by have e : (256 : Nat) ^ 8 = 2 ^ 64 := by decide
                           omega)
  have m1 : zc_dig (fun _ => 85) 8 = 6148914691236517205 := by decide
  have m2 : zc_dig (fun _ => 51) 8 = 3689348814741910323 := by decide
  have m3 : zc_dig (fun _ => 15) 8 = 1085102592571150095 := by decide
  have a1 : x - (x / 2 &&& 6148914691236517205) = zc_dig (fun k => zc_s1 (x / 256 ^ k % 256)) 8 := by
    have s := zc_digS 85 1 (by decide) (by decide) 8 (fun k => x / 256 ^ k % 256) (fun k _ => by8 k)
    rw [ex, m1] at s
    have s' : x / 2 &&& 6148914691236517205 = zc_dig (fun k => x / 256 ^ k % 256 / 2 ^ 1 &&& 85) 8 := s
    rw [s']
    have t := (zc_digSub 8 (fun k => x / 256 ^ k % 256) (fun k => x / 256 ^ k % 256 / 2 ^ 1 &&& 85) (fun k _ => (zc_b1 _ (by8 k)).1)).1
    rw [ex] at t
    exact t
  have b1 : (x - (x / 2 &&& 6148914691236517205) &&& 3689348814741910323) + ((x - (x / 2 &&& 6148914691236517205)) / 4 &&& 3689348814741910323) = zc_dig (fun k => zc_s2 (x / 256 ^ k % 256)) 8 := by
    rw [a1]
    have s := zc_digS 51 2 (by decide) (by decide) 8 (fun k => zc_s1 (x / 256 ^ k % 256)) (fun k _ => (zc_b1 _ (by8 k)).2.1)
    have u := zc_digA (fun _ => 0) 51 (by decide) 8 (fun k => zc_s1 (x / 256 ^ k % 256)) (fun k _ => (zc_b1 _ (by8 k)).2.1)
    rw [m2] at s u
    have s' : zc_dig (fun k => zc_s1 (x / 256 ^ k % 256)) 8 / 4 &&& 3689348814741910323 = zc_dig (fun k => zc_s1 (x / 256 ^ k % 256) / 2 ^ 2 &&& 51) 8 := s
    rw [s', u, zc_digAdd]
  have d1 := (zc_digN 8 (fun k => zc_s2 (x / 256 ^ k % 256)) (fun k => ⟨(zc_b1 _ (by8 k)).2.2.2.2.1, (zc_b1 _ (by8 k)).2.2.2.2.2.1, (zc_b1 _ (by8 k)).2.2.1⟩)).2
  rw [m3] at d1
  have pk : ∀ k, zc_s2 (x / 256 ^ k % 256) % 16 + zc_s2 (x / 256 ^ k % 256) / 16 = fb_ct (x / 256 ^ k % 256).testBit 8 := fun k => (zc_b1 _ (by8 k)).2.2.2.2.2.2
  have ct := zc_ct8 x 8
  have le8 : ∀ k, fb_ct (x / 256 ^ k % 256).testBit 8 ≤ 8 := fun k => fb_ct_le _ 8
  have d2 : ((zc_dig (fun k => zc_s2 (x / 256 ^ k % 256)) 8) + (zc_dig (fun k => zc_s2 (x / 256 ^ k % 256)) 8) / 16) &&& 1085102592571150095 = zc_dig (fun k => fb_ct (x / 256 ^ k % 256).testBit 8) 8 := by
    rw [d1]
    congr 1
    funext k
    exact pk k
  show (let a := x - (x / 2 &&& 6148914691236517205); let b := (a &&& 3689348814741910323) + (a / 4 &&& 3689348814741910323); let d := (b + b / 16) &&& 1085102592571150095; let e := d + d / 256; let f := e + e / 65536; let g := f + f / 4294967296; g % 128) = _
  dsimp only
  rw [b1, d2]
  have fin := zc_fin (le8 0) (le8 1) (le8 2) (le8 3) (le8 4) (le8 5) (le8 6) (le8 7) (d := zc_dig (fun k => fb_ct (x / 256 ^ k % 256).testBit 8) 8) rfl rfl rfl rfl
  rw [fin]
  have ct' : fb_ct x.testBit 64 = _ := ct
  rw [ct']
  simp only [zc_sm, Nat.zero_add]
theorem zc_wb (x : Int64) : ∃ n, n < 2 ^ 64 ∧ x = lN n := ⟨x.toBitVec.toNat, x.toBitVec.isLt, by
  apply Int64.toBitVec_inj.mp
  apply BitVec.eq_of_toNat_eq
  show x.toBitVec.toNat = (Int64.ofNat x.toBitVec.toNat).toBitVec.toNat
  rw [Int64.toBitVec_ofNat', BitVec.toNat_ofNat, Nat.mod_eq_of_lt x.toBitVec.isLt]⟩
theorem zc_tn {n : Nat} (h : n < 2 ^ 64) : (lN n).toBitVec.toNat = n := by
  show (Int64.ofNat n).toBitVec.toNat = n
  rw [Int64.toBitVec_ofNat', BitVec.toNat_ofNat, Nat.mod_eq_of_lt h]
theorem zc_inj {a : Int64} {n : Nat} (h : a.toBitVec.toNat = n) : a = lN n := by
  apply Int64.toBitVec_inj.mp
  apply BitVec.eq_of_toNat_eq
  have : n < 2 ^ 64 := by rw [← h]; exact a.toBitVec.isLt
  rw [zc_tn this, h]
theorem zc_ushr {n : Nat} (h : n < 2 ^ 64) {y : UInt64} {k : Nat} (hy : y.toNat = k) (hk : k < 64) : ((lN n).toUInt64 >>> y).toInt64 = lN (n / 2 ^ k) := by
  apply zc_inj
  show ((lN n).toUInt64 >>> y).toNat = n / 2 ^ k
  rw [UInt64.toNat_shiftRight, hy, Nat.mod_eq_of_lt hk, Nat.shiftRight_eq_div_pow]
  congr 1
  exact zc_tn h
theorem zc_andL {a b : Nat} (ha : a < 2 ^ 64) (hb : b < 2 ^ 64) : lN a &&& lN b = lN (a &&& b) := by
  apply zc_inj
  rw [Int64.toBitVec_and, BitVec.toNat_and, zc_tn ha, zc_tn hb]
/-- the JDK's count is the count -/
theorem zc_bit (x : Int64) (hw : zs_w x) : j_J13_bitCount_95d88 x = nI (zs_ct x) := by
  obtain ⟨n, hn, e⟩ := zc_wb x
  have pq := zc_popq n hn
  have ct : zs_ct x = fb_ct n.testBit 64 := by
    rw [← zs_ct64 hw]
    refine fb_ct_cong (fun c _ => ?_)
    unfold zs_in
    rw [e, ← BitVec.testBit_toNat, zc_tn hn]
  rw [ct, ← pq]
  have le1 : n / 2 &&& 6148914691236517205 ≤ n := Nat.le_trans Nat.and_le_left (Nat.div_le_self _ _)
  have le2 : ∀ y m : Nat, m < 2 ^ 62 → (y &&& m) < 2 ^ 62 := fun y m hm => Nat.lt_of_le_of_lt Nat.and_le_right hm
  unfold j_J13_bitCount_95d88
  rw [e]
  have s1 : ((1 : Int32).toInt64.toUInt64 &&& Int64.toUInt64 63).toNat = 1 := by decide
  have s2 : ((2 : Int32).toInt64.toUInt64 &&& Int64.toUInt64 63).toNat = 2 := by decide
  have s4 : ((4 : Int32).toInt64.toUInt64 &&& Int64.toUInt64 63).toNat = 4 := by decide
  have s8 : ((8 : Int32).toInt64.toUInt64 &&& Int64.toUInt64 63).toNat = 8 := by decide
  have s16 : ((16 : Int32).toInt64.toUInt64 &&& Int64.toUInt64 63).toNat = 16 := by decide
  have s32 : ((32 : Int32).toInt64.toUInt64 &&& Int64.toUInt64 63).toNat = 32 := by decide
  have m1 : (6148914691236517205 : Int64) = lN 6148914691236517205 := rfl
  have m2 : (3689348814741910323 : Int64) = lN 3689348814741910323 := rfl
  have m3 : (1085102592571150095 : Int64) = lN 1085102592571150095 := rfl
  rw [m1, m2, m3]
  rw [zc_ushr hn s1 (by decide), zc_andL (Nat.lt_of_le_of_lt (Nat.div_le_self _ _) hn) (by decide), show (2 : Nat) ^ 1 = 2 from rfl, lN_sub le1]
  have ha : n - (n / 2 &&& 6148914691236517205) < 2 ^ 64 := by omega
  generalize hA : n - (n / 2 &&& 6148914691236517205) = a at ha ⊢
  rw [zc_ushr ha s2 (by decide), zc_andL ha (by decide), zc_andL (Nat.lt_of_le_of_lt (Nat.div_le_self _ _) ha) (by decide), show (2 : Nat) ^ 2 = 4 from rfl, lN_add]
  have b1 := le2 a 3689348814741910323 (by decide)
  have b2 := le2 (a / 4) 3689348814741910323 (by decide)
  have hb : (a &&& 3689348814741910323) + (a / 4 &&& 3689348814741910323) < 2 ^ 63 := by omega
  generalize hB : (a &&& 3689348814741910323) + (a / 4 &&& 3689348814741910323) = b at hb ⊢
  rw [zc_ushr (by omega) s4 (by decide), show (2 : Nat) ^ 4 = 16 from rfl, lN_add, zc_andL (by omega) (by decide)]
  have d1 := le2 (b + b / 16) 1085102592571150095 (by decide)
  generalize hD : (b + b / 16) &&& 1085102592571150095 = d at d1 ⊢
  rw [zc_ushr (by omega) s8 (by decide), show (2 : Nat) ^ 8 = 256 from rfl, lN_add]
  have he : d + d / 256 < 2 ^ 63 := by omega
  generalize hE : d + d / 256 = e' at he ⊢
  rw [zc_ushr (by omega) s16 (by decide), show (2 : Nat) ^ 16 = 65536 from rfl, lN_add]
  have hf : e' + e' / 65536 < 2 ^ 64 := by omega
  generalize hF : e' + e' / 65536 = f at hf ⊢
  rw [zc_ushr hf s32 (by decide), show (2 : Nat) ^ 32 = 4294967296 from rfl, lN_add, lN_i]
  have pp : zc_pop n = (f + f / 4294967296) % 128 := by
    unfold zc_pop
    dsimp only
    rw [hA, hB, hD, hE, hF]
  rw [pp, pk_and (nI (f + f / 4294967296)) 7 (by decide)]
  congr 1
  show (Int32.ofNat (f + f / 4294967296)).toBitVec.toNat % 128 = _
  rw [Int32.toBitVec_ofNat', BitVec.toNat_ofNat]
  omega
abbrev zr_s (j : Nat) : Nat := if j < 41 then j + 1 else 12
def zr_row (vrow ur : Nat → Int32) (g inv : Nat → Nat) : Prop := (∀ k, k < 42 → ur k = nI (g k) ∧ g k < 42 ∧ inv (g k) = k) ∧ (∀ j, 12 ≤ j → j < 42 → vrow j = ur (zr_s j))
def zr_lo (up : Nat → Int32) (led : Int32) : Prop := (led = (-1) ∧ ∀ c, c < 42 → ¬ up c = nI 3) ∨ (∃ l, l < 42 ∧ led = nI l ∧ ∀ c, c < 42 → (up c = nI 3 ↔ c = l))
def zr_D (vrow ur up : Nat → Int32) (vdrawn vtr vled : Int32) (vh1 vt1 vh2 vt2 : Int64) (udrawn uon uturn : Int32) : Prop :=
  ∃ (t a b E : Nat) (g inv : Nat → Nat), (t < 4 ∧ vtr = nI t) ∧ (a + b = 1 ∧ uturn = nI a) ∧ (E ≤ 15 ∧ udrawn = nI (2 * E) ∧ vdrawn = nI (12 + 2 * E)) ∧ (zr_hand up 0 vh1 ∧ zr_hand up 1 vh2 ∧ zr_hand up 4 vt1 ∧ zr_hand up 5 vt2) ∧ (∀ c, c < 42 → ∃ v, v < 6 ∧ up c = nI v) ∧ zr_lo up vled ∧ zr_row vrow ur g inv ∧ (∀ j, 12 + 2 * E ≤ j → j < 42 → up (g (zr_s j)) = nI 2) ∧ (zl_nn up 0 ≤ 6 ∧ zl_nn up 1 ≤ 6) ∧
    (uon = 1 → ((vled = (-1) ∧ zl_nn up a = zl_nn up b) ∨ (¬ vled = (-1) ∧ zl_nn up a = zl_nn up b + 1)) ∧ 1 ≤ zl_nn up a ∧ (E < 15 → zl_nn up a = 6))
def zr_R (vrow : Nat → Int32) (vdrawn vtr vled vmov vw1 vw2 : Int32) (vh1 vt1 : Int64) (vp1 vk1 vg1 : Int32) (vh2 vt2 : Int64) (vp2 vk2 vg2 : Int32) (up ur us ut ug uw uh : Nat → Int32) (udrawn udealt uon uturn uled utr : Int32) : Prop :=
  (vw1 = uw 0 ∧ vw2 = uw 1 ∧ vp1 = us 0 ∧ vp2 = us 1 ∧ vk1 = ut 0 ∧ vk2 = ut 1 ∧ vg1 = ug 0 ∧ vg2 = ug 1) ∧ (vled = uled ∧ vtr = utr) ∧ (∀ j, j < 12 → vp_in (uh j) 42) ∧ (uturn = 0 ∨ uturn = 1) ∧ ((uon = 0 ∧ vmov = (-1) ∧ vled = (-1)) ∨ (uon = 1 ∧ vmov = uturn)) ∧ (∀ j, j < 42 → vp_in (ur j) 42) ∧
    ((udealt = 0 ∧ uon = 0 ∧ vtr = (-1) ∧ vdrawn = 42 ∧ udrawn = 0 ∧ vh1 = 0 ∧ vh2 = 0) ∨ (udealt = 1 ∧ zr_D vrow ur up vdrawn vtr vled vh1 vt1 vh2 vt2 udrawn uon uturn))
theorem zr_c0 : (0 : Int32).toNatClampNeg = 0 := by decide
theorem zr_c1 : (1 : Int32).toNatClampNeg = 1 := by decide
theorem zr_card {x : Int32} (h : ¬ j_X2_isCard x = 0) : ∃ c, c < 42 ∧ x = nI c := by
  rcases pk_ix x (n := 42) (by decide) with q | q | ⟨j, hj, e⟩
  · refine absurd ?_ h
    unfold j_X2_isCard
    rw [if_pos q]
  · have q' : (42 : Int32) ≤ x := q
    refine absurd ?_ h
    unfold j_X2_isCard
    by_cases z : x < 0
    · rw [if_pos z]
    · rw [if_neg z, if_pos q']
  · exact ⟨j, hj, e⟩
theorem zr_isCard {c : Nat} (hc : c < 42) : j_X2_isCard (nI c) = 1 := by
  have : ∀ c, c < 42 → j_X2_isCard (nI c) = 1 := by decide +kernel
  exact this c hc
theorem zr_arch {x : Int32} (h : ¬ j_X2_isArchivist x = 0) : x = 0 ∨ x = 1 := by
  by_cases q : x = 0
  · exact Or.inl q
  · by_cases r : x = 1
    · exact Or.inr r
    · refine absurd ?_ h
      unfold j_X2_isArchivist
      rw [if_neg q, if_neg r]
theorem zr_pile {E : Nat} (h : E ≤ 15) : j_X3_inPile (nI (2 * E)) 1 = nI (30 - 2 * E) := by
  unfold j_X3_inPile
  rw [if_neg (by decide)]
  exact pk_sub (a := 30) (b := 2 * E) (by omega)
theorem zr_pileq {E : Nat} (h : E ≤ 15) : (42 : Int32) ≤ nI (12 + 2 * E) ↔ ¬ 0 < j_X3_inPile (nI (2 * E)) 1 := by
  rw [zr_pile h]
  have e1 : (42 : Int32) ≤ nI (12 + 2 * E) ↔ 42 ≤ 12 + 2 * E := nI_leI (a := 42) (by decide) (by omega)
  have e2 : (0 : Int32) < nI (30 - 2 * E) ↔ 0 < 30 - 2 * E := nI_ltI (a := 0) (by decide) (by omega)
  rw [e1, e2]
  omega
theorem zr_ledOf {up : Nat → Int32} {led : Int32} (h : zr_lo up led) : zr_led led := by
  rcases h with ⟨e, _⟩ | ⟨l, hl, e, _⟩
  · exact Or.inl e
  · exact Or.inr ⟨l, hl, e⟩
section ZR
variable {vrow : Nat → Int32} {vdrawn vtr vled vmov vw1 vw2 : Int32} {vh1 vt1 : Int64} {vp1 vk1 vg1 : Int32} {vh2 vt2 : Int64} {vp2 vk2 vg2 : Int32} {up ur us ut ug uw uh : Nat → Int32} {udrawn udealt uon uturn uled utr : Int32}
theorem zr_why (h : zr_R vrow vdrawn vtr vled vmov vw1 vw2 vh1 vt1 vp1 vk1 vg1 vh2 vt2 vp2 vk2 vg2 up ur us ut ug uw uh udrawn udealt uon uturn uled utr) {c : Nat} (hc : c < 42) : j_X3_why up udrawn udealt uon uturn uled utr (nI c) = j_X2_reasonAgainst vdrawn vtr vled vmov vh1 vh2 (nI c) := by
  obtain ⟨_, ⟨el, et⟩, _, _, hm, _, hd⟩ := h
  subst el; subst et
  rcases hm with ⟨m0, m1, _⟩ | ⟨m0, m1⟩
  · exact zr_why0 m0 m1
  · rcases hd with ⟨_, d0, _⟩ | ⟨d0, t, a, b, E, g, inv, ⟨ht, e1⟩, ⟨hab, e2⟩, ⟨hE, e3, e4⟩, ⟨g1, g2, _, _⟩, _, lo, _⟩
    · rw [m0] at d0
      exact absurd d0 (by decide)
    · subst e1; subst e2; subst e3; subst e4; subst d0; subst m1
      exact zr_why1 (by omega) ht hc g1 g2 (by rw [m0]; decide) (zr_ledOf lo) (zr_pileq hE)
theorem zr_whyNot (h : zr_R vrow vdrawn vtr vled vmov vw1 vw2 vh1 vt1 vp1 vk1 vg1 vh2 vt2 vp2 vk2 vg2 up ur us ut ug uw uh udrawn udealt uon uturn uled utr) {x : Int32} (hx : ¬ j_X2_isCard x = 0) : j_X3_whyNot up udrawn udealt uon uturn uled utr x = j_X2_whyNot vdrawn vtr vled vmov vh1 vh2 x := by
  obtain ⟨c, hc, e⟩ := zr_card hx
  subst e
  have hx3 : ¬ j_X3_isCard (nI c) = 0 := hx
  unfold j_X3_whyNot j_X2_whyNot
  rw [if_neg hx3]
  exact zr_why h hc
theorem zr_isPlaying (h : zr_R vrow vdrawn vtr vled vmov vw1 vw2 vh1 vt1 vp1 vk1 vg1 vh2 vt2 vp2 vk2 vg2 up ur us ut ug uw uh udrawn udealt uon uturn uled utr) : j_X2_isPlaying vmov = j_X3_isPlaying uon := by
  obtain ⟨_, _, _, ht, hm, _, _⟩ := h
  unfold j_X2_isPlaying j_X3_isPlaying
  rcases hm with ⟨m0, m1, _⟩ | ⟨m0, m1⟩
  · rw [m0, m1]; decide
  · rw [m0, m1]
    rcases ht with e | e
    · rw [e]; decide
    · rw [e]; decide
theorem zr_turn (h : zr_R vrow vdrawn vtr vled vmov vw1 vw2 vh1 vt1 vp1 vk1 vg1 vh2 vt2 vp2 vk2 vg2 up ur us ut ug uw uh udrawn udealt uon uturn uled utr) : j_X2_turn vmov = j_X3_turn uon uturn := by
  obtain ⟨_, _, _, _, hm, _, _⟩ := h
  unfold j_X2_turn j_X3_turn
  rcases hm with ⟨m0, m1, _⟩ | ⟨m0, m1⟩
  · rw [if_pos m0, m1]
  · rw [if_neg (by rw [m0]; decide), m1]
theorem zr_ledA (h : zr_R vrow vdrawn vtr vled vmov vw1 vw2 vh1 vt1 vp1 vk1 vg1 vh2 vt2 vp2 vk2 vg2 up ur us ut ug uw uh udrawn udealt uon uturn uled utr) : j_X2_led vled = j_X3_led uled := h.2.1.1
theorem zr_trumps (h : zr_R vrow vdrawn vtr vled vmov vw1 vw2 vh1 vt1 vp1 vk1 vg1 vh2 vt2 vp2 vk2 vg2 up ur us ut ug uw uh udrawn udealt uon uturn uled utr) : j_X2_trumps vtr = j_X3_trumps utr := h.2.1.2
theorem zr_won1 (h : zr_R vrow vdrawn vtr vled vmov vw1 vw2 vh1 vt1 vp1 vk1 vg1 vh2 vt2 vp2 vk2 vg2 up ur us ut ug uw uh udrawn udealt uon uturn uled utr) : j_X2_wonByFirst vw1 = j_X3_wonByFirst uw := by
  unfold j_X2_wonByFirst j_X3_wonByFirst
  rw [zr_c0]
  exact h.1.1
theorem zr_won2 (h : zr_R vrow vdrawn vtr vled vmov vw1 vw2 vh1 vt1 vp1 vk1 vg1 vh2 vt2 vp2 vk2 vg2 up ur us ut ug uw uh udrawn udealt uon uturn uled utr) : j_X2_wonBySecond vw2 = j_X3_wonBySecond uw := by
  unfold j_X2_wonBySecond j_X3_wonBySecond
  rw [zr_c1]
  exact h.1.2.1
theorem zr_pileA (h : zr_R vrow vdrawn vtr vled vmov vw1 vw2 vh1 vt1 vp1 vk1 vg1 vh2 vt2 vp2 vk2 vg2 up ur us ut ug uw uh udrawn udealt uon uturn uled utr) : j_X2_pile vdrawn = j_X3_pile udrawn udealt := by
  obtain ⟨_, _, _, _, _, _, hd⟩ := h
  unfold j_X2_pile j_X3_pile
  rcases hd with ⟨d0, _, _, d1, d2, _⟩ | ⟨d0, t, a, b, E, g, inv, _, _, ⟨hE, e3, e4⟩, _⟩
  · rw [d0, d1, d2]; decide
  · rw [d0, e3, e4, zr_pile hE]
    have : (42 : Int32) - nI (12 + 2 * E) = nI (42 - (12 + 2 * E)) := pk_sub (a := 42) (by omega)
    rw [this]
    congr 1
    omega
theorem zr_cards (h : zr_R vrow vdrawn vtr vled vmov vw1 vw2 vh1 vt1 vp1 vk1 vg1 vh2 vt2 vp2 vk2 vg2 up ur us ut ug uw uh udrawn udealt uon uturn uled utr) {x : Int32} (hx : ¬ j_X2_isArchivist x = 0) : j_X2_cards vh1 vh2 x = j_X3_cards up udealt x := by
  obtain ⟨_, _, _, _, _, _, hd⟩ := h
  unfold j_X2_cards j_X3_cards
  have hx3 : ¬ j_X3_isArchivist x = 0 := hx
  rw [if_neg hx3]
  rcases hd with ⟨d0, _, _, _, _, d1, d2⟩ | ⟨d0, t, a, b, E, g, inv, _, _, _, ⟨g1, g2, _, _⟩, _⟩
  · have z : j_X3_howMany up 0 x = 0 := by
      show j_X3_howMany_4 up 0 x 42 0 0 = 0
      rw [j_X3_howMany_4, if_pos rfl]
    rw [d0, d1, d2, z]
    by_cases q : x = 0
    · rw [if_pos q]; decide
    · rw [if_neg q]; decide
  · rw [d0]
    rcases zr_arch hx with e | e
    · subst e
      rw [if_pos rfl, zc_bit vh1 (zl_hw up g1), zl_hct up g1]
      exact (zl_hm up 0 (ud := 1) (by decide)).symm
    · subst e
      rw [if_neg (by decide), zc_bit vh2 (zl_hw up g2), zl_hct up g2]
      exact (zl_hm up 1 (ud := 1) (by decide)).symm
theorem zr_cA {h : Int64} {a : Nat} {x0 : Int32} (vh1 vh2 : Int64) (hh : zr_hand up a h) (hx : ¬ j_X3_isArchivist x0 = 0) (hx0 : x0 = nI a) {ud : Int32} (hu : ¬ ud = 0) {k : Nat} (hk : k < 2 ^ 31) : ∀ (n i j : Nat), i + n ≤ 42 → j ≤ k → j ≤ i →
    (j_X2_cardAt_32 vh1 vh2 x0 (nI k) n i h (nI j) = (-1) ∧ j_X3_cardAt_uthr_10 up ud x0 (nI k) n i (nI (k - j)) = 1) ∨
    (∃ c, c < 42 ∧ j_X2_cardAt_32 vh1 vh2 x0 (nI k) n i h (nI j) = nI c ∧ j_X3_cardAt_10 up ud x0 (nI k) n i (nI (k - j)) = nI c ∧ j_X3_cardAt_uthr_10 up ud x0 (nI k) n i (nI (k - j)) = 0)
  | 0, i, j, _, _, _ => Or.inl ⟨rfl, rfl⟩
  | n + 1, i, j, hi, hj, hji => by
    rw [j_X2_cardAt_32, j_X3_cardAt_10, j_X3_cardAt_uthr_10, if_neg hu, if_neg hu, if_neg hx, if_neg hx, if_neg (nI_pos hk), if_neg (nI_pos hk), nI_clamp (show i < 2 ^ 31 by omega)]
    by_cases u : up i = nI a
    · have hi1 : zs_in h i = true := by
        rw [hh]
        have : i < 42 := by omega
        simp [zl_p, this, u]
      have hn : ¬ j_X2_has h (nI i) = 0 := fun e => by
        rw [(zs_has (by omega) h).mp e] at hi1
        exact absurd hi1 (by decide)
      have u' : up i = x0 := by rw [u, hx0]
      rw [if_neg hn, if_pos u', if_pos u']
      by_cases q : j = k
      · have q1 : nI j = nI k := by rw [q]
        have q2 : nI (k - j) = 0 := by rw [q, Nat.sub_self]; rfl
        rw [if_pos q1, if_pos q2, if_pos q2]
        exact Or.inr ⟨i, by omega, rfl, rfl, rfl⟩
      · have q1 : ¬ nI j = nI k := fun e => q ((nI_eq (by omega) hk).mp e)
        have q2 : ¬ nI (k - j) = 0 := nI_ne0 (by omega) (by omega)
        have q3 : nI (k - j) + (-1) = nI (k - (j + 1)) := by
          rw [show k - j = (k - (j + 1)) + 1 by omega, pk_m1]
        rw [if_neg q1, if_neg q2, if_neg q2, nI_1, q3]
        exact zr_cA vh1 vh2 hh hx hx0 hu hk n (i + 1) (j + 1) (by omega) (by omega) (by omega)
    · have hi1 : zs_in h i = false := by
        rw [hh]
        simp [zl_p, u]
      have u' : ¬ up i = x0 := by rw [hx0]; exact u
      rw [if_pos ((zs_has (by omega) h).mpr hi1), if_neg u', if_neg u']
      exact zr_cA vh1 vh2 hh hx hx0 hu hk n (i + 1) j (by omega) hj (by omega)
theorem zr_cN (vh1 vh2 : Int64) (x0 : Int32) {x1 : Int32} (hx : x1 < 0) (h : Int64) : ∀ (n i j : Nat), i + n ≤ 42 → j ≤ i → j_X2_cardAt_32 vh1 vh2 x0 x1 n i h (nI j) = (-1)
  | 0, _, _, _, _ => rfl
  | n + 1, i, j, hi, hj => by
    rw [j_X2_cardAt_32]
    have e : ¬ nI j = x1 := fun e => by
      rw [← e] at hx
      exact nI_pos (by omega) hx
    by_cases q : j_X2_has h (nI i) = 0
    · rw [if_pos q]
      exact zr_cN vh1 vh2 x0 hx h n (i + 1) j (by omega) (by omega)
    · rw [if_neg q, if_neg e, nI_1]
      exact zr_cN vh1 vh2 x0 hx h n (i + 1) (j + 1) (by omega) (by omega)
theorem zr_c0h (vh1 vh2 : Int64) (x0 x1 : Int32) : ∀ (n i : Nat) (y : Int32), i + n ≤ 42 → j_X2_cardAt_32 vh1 vh2 x0 x1 n i 0 y = (-1)
  | 0, _, _, _ => rfl
  | n + 1, i, y, hi => by
    rw [j_X2_cardAt_32, if_pos ((zs_has (show i < 64 by omega) 0).mpr (zs_0 i))]
    exact zr_c0h vh1 vh2 x0 x1 n (i + 1) y (by omega)
theorem zr_cardAt (h : zr_R vrow vdrawn vtr vled vmov vw1 vw2 vh1 vt1 vp1 vk1 vg1 vh2 vt2 vp2 vk2 vg2 up ur us ut ug uw uh udrawn udealt uon uturn uled utr) {x0 x1 : Int32} (hx : ¬ j_X2_isArchivist x0 = 0) :
    (j_X2_cardAt vh1 vh2 x0 x1 = (-1) ∧ j_X3_cardAt_uthr up udealt x0 x1 = 1) ∨ (¬ j_X2_cardAt vh1 vh2 x0 x1 = (-1) ∧ j_X2_cardAt vh1 vh2 x0 x1 = j_X3_cardAt up udealt x0 x1 ∧ j_X3_cardAt_uthr up udealt x0 x1 = 0) := by
  obtain ⟨_, _, _, _, _, _, hd⟩ := h
  have hx3 : ¬ j_X3_isArchivist x0 = 0 := hx
  rcases hd with ⟨d0, _, _, _, _, d1, d2⟩ | ⟨d0, t, a, b, E, g, inv, _, _, _, ⟨g1, g2, _, _⟩, _⟩
  · refine Or.inl ⟨?_, ?_⟩
    · unfold j_X2_cardAt
      rw [d1, d2]
      by_cases q : x0 = 0
      · rw [if_pos q]; exact zr_c0h _ _ _ _ 42 0 0 (by decide)
      · rw [if_neg q]; exact zr_c0h _ _ _ _ 42 0 0 (by decide)
    · show j_X3_cardAt_uthr_10 up udealt x0 x1 42 0 x1 = 1
      rw [j_X3_cardAt_uthr_10, if_pos d0]
  · subst d0
    obtain ⟨a', h', e1, e2, e3⟩ : ∃ (a' : Nat) (h' : Int64), x0 = nI a' ∧ zr_hand up a' h' ∧ j_X2_cardAt vh1 vh2 x0 x1 = j_X2_cardAt_32 vh1 vh2 x0 x1 42 0 h' 0 := by
      rcases zr_arch hx with e | e
      · exact ⟨0, vh1, e, g1, by unfold j_X2_cardAt; rw [if_pos e]⟩
      · exact ⟨1, vh2, e, g2, by unfold j_X2_cardAt; rw [if_neg (by rw [e]; decide)]⟩
    by_cases q : x1 < 0
    · refine Or.inl ⟨?_, ?_⟩
      · rw [e3]; exact zr_cN vh1 vh2 x0 q h' 42 0 0 (by decide) (by decide)
      · show j_X3_cardAt_uthr_10 up 1 x0 x1 42 0 x1 = 1
        rw [j_X3_cardAt_uthr_10, if_neg (by decide), if_neg hx3, if_pos q]
    · obtain ⟨k, hk, ek⟩ := nI_of q
      subst ek
      have k0 := zr_cA vh1 vh2 e2 hx3 e1 (ud := 1) (by decide) hk 42 0 0 (by decide) (Nat.zero_le _) (Nat.le_refl _)
      rw [Nat.sub_zero] at k0
      rcases k0 with ⟨r1, r2⟩ | ⟨c, hc, r1, r2, r3⟩
      · exact Or.inl ⟨e3.trans r1, r2⟩
      · refine Or.inr ⟨?_, ?_, r3⟩
        · rw [e3]
          intro z
          exact zs_nm1 c hc (r1.symm.trans z)
        · rw [e3]
          exact r1.trans r2.symm
theorem zr_has0 {h : Int64} {v c w : Nat} (hv : v < 6) (hw : w < 6) (hc : c < 42) (hh : zr_hand up v h) (u : up c = nI w) : (j_X2_has h (nI c) = 0) ↔ ¬ w = v := by
  rw [zs_has (by omega), hh]
  by_cases q : w = v
  · subst q; simp [zl_p, hc, u]
  · have : ¬ nI w = nI v := fun e => q ((nI_eq (by omega) (by omega)).mp e)
    simp [zl_p, u, this, q]
theorem zr_placeOf (h : zr_R vrow vdrawn vtr vled vmov vw1 vw2 vh1 vt1 vp1 vk1 vg1 vh2 vt2 vp2 vk2 vg2 up ur us ut ug uw uh udrawn udealt uon uturn uled utr) {x : Int32} (hx : ¬ j_X2_isCard x = 0) : j_X2_placeOf vtr vled vh1 vt1 vh2 vt2 x = j_X3_placeOf up udealt x := by
  obtain ⟨_, _, _, _, _, _, hd⟩ := h
  obtain ⟨c, hc, e⟩ := zr_card hx
  subst e
  have hx3 : ¬ j_X3_isCard (nI c) = 0 := hx
  unfold j_X2_placeOf j_X3_placeOf
  rw [if_neg hx3]
  rcases hd with ⟨d0, _, d1, _⟩ | ⟨d0, t, a, b, E, g, inv, ⟨ht, e1⟩, _, _, ⟨g1, g2, g4, g5⟩, pl, lo, _⟩
  · rw [if_pos d0, if_pos d1]
  · have hv : ¬ vtr = (-1) := by rw [e1]; exact zs_nm1 t (by omega)
    have hdd : ¬ udealt = 0 := by rw [d0]; decide
    rw [if_neg hv, if_neg hdd, nI_clamp (by omega)]
    obtain ⟨w, hw, u⟩ := pl c hc
    rw [u]
    by_cases q0 : w = 0
    · rw [if_neg (fun e => (zr_has0 (by decide) hw hc g1 u).mp e q0), q0]; rfl
    · rw [if_pos ((zr_has0 (by decide) hw hc g1 u).mpr q0)]
      by_cases q1 : w = 1
      · rw [if_neg (fun e => (zr_has0 (by decide) hw hc g2 u).mp e q1), q1]; rfl
      · rw [if_pos ((zr_has0 (by decide) hw hc g2 u).mpr q1)]
        by_cases q4 : w = 4
        · rw [if_neg (fun e => (zr_has0 (by decide) hw hc g4 u).mp e q4), q4]; rfl
        · rw [if_pos ((zr_has0 (by decide) hw hc g4 u).mpr q4)]
          by_cases q5 : w = 5
          · rw [if_neg (fun e => (zr_has0 (by decide) hw hc g5 u).mp e q5), q5]; rfl
          · rw [if_pos ((zr_has0 (by decide) hw hc g5 u).mpr q5)]
            rcases lo with ⟨e, n3⟩ | ⟨l, hl, e, i3⟩
            · have : ¬ w = 3 := fun z => n3 c hc (by rw [u, z])
              rw [if_neg (by rw [e]; exact zs_nm1 c hc), show w = 2 by omega]; rfl
            · by_cases z : c = l
              · have w3 := (i3 c hc).mpr z
                rw [u] at w3
                rw [if_pos (by rw [e, z]), w3]; rfl
              · have w3 : ¬ w = 3 := fun y => z ((i3 c hc).mp (by rw [u, y]))
                rw [if_neg (by rw [e]; exact fun y => z ((nI_eq (by omega) (by omega)).mp y)), show w = 2 by omega]; rfl
theorem zr_of {f : Nat → Int32} {v1 v2 x : Int32} (h1 : v1 = f 0) (h2 : v2 = f 1) (hx : ¬ j_X2_isArchivist x = 0) : (if x = 0 then v1 else v2) = (if j_X3_isArchivist x = 0 then 0 else f x.toNatClampNeg) := by
  have hx3 : ¬ j_X3_isArchivist x = 0 := hx
  rw [if_neg hx3]
  rcases zr_arch hx with e | e
  · subst e; rw [if_pos rfl, h1, zr_c0]
  · subst e; rw [if_neg (by decide), h2, zr_c1]
theorem zr_ch (h : zr_R vrow vdrawn vtr vled vmov vw1 vw2 vh1 vt1 vp1 vk1 vg1 vh2 vt2 vp2 vk2 vg2 up ur us ut ug uw uh udrawn udealt uon uturn uled utr) : ∀ (n i : Nat) (y : Int32), i + n ≤ 42 → j_X2_choices_4 vdrawn vtr vled vmov vh1 vh2 n i y = j_X3_choices_9 up udrawn udealt uon uturn uled utr n i y
  | 0, _, _, _ => rfl
  | n + 1, i, y, hi => by
    rw [j_X2_choices_4, j_X3_choices_9, zr_why h (show i < 42 by omega), show y + 0 = y from Int32.add_zero _]
    by_cases q : j_X2_reasonAgainst vdrawn vtr vled vmov vh1 vh2 (nI i) = 0
    · rw [if_pos q, if_pos q]; exact zr_ch h n (i + 1) _ (by omega)
    · rw [if_neg q, if_neg q]; exact zr_ch h n (i + 1) _ (by omega)
theorem zr_choices (h : zr_R vrow vdrawn vtr vled vmov vw1 vw2 vh1 vt1 vp1 vk1 vg1 vh2 vt2 vp2 vk2 vg2 up ur us ut ug uw uh udrawn udealt uon uturn uled utr) : j_X2_choices vdrawn vtr vled vmov vh1 vh2 = j_X3_choices up udrawn udealt uon uturn uled utr := zr_ch h 42 0 0 (by decide)
/-- who takes it -/
theorem zr_taker {t l c : Nat} {m : Int32} (ht : t < 4) (hl : l < 42) (hc : c < 42) : j_X2_takerBy (nI t) (nI l) m (nI c) = (if j_X3_takes (nI t) (nI c) (nI l) = 0 then 1 - m else m) := by
  unfold j_X2_takerBy
  by_cases q : j_X2_beats (nI c) (nI l) (nI t) = 0
  · rw [if_pos q, if_pos ((zm_takes ht hc hl).mpr q)]
  · rw [if_neg q, if_neg (fun e => q ((zm_takes ht hc hl).mp e))]
theorem zr_would (h : zr_R vrow vdrawn vtr vled vmov vw1 vw2 vh1 vt1 vp1 vk1 vg1 vh2 vt2 vp2 vk2 vg2 up ur us ut ug uw uh udrawn udealt uon uturn uled utr) {x : Int32} (hx : ¬ j_X2_isCard x = 0) (h1 : ¬ vled = (-1)) (h2 : ¬ vled = x) : j_X2_wouldTake vtr vled vmov x = j_X3_wouldTake uturn uled utr x ∧ j_X3_wouldTake_uthr uled x = 0 := by
  obtain ⟨_, ⟨el, et⟩, _, _, hm, _, hd⟩ := h
  obtain ⟨c, hc, e⟩ := zr_card hx
  subst e; subst el; subst et
  have hx3 : ¬ j_X3_isCard (nI c) = 0 := hx
  rcases hm with ⟨_, _, m1⟩ | ⟨m0, m1⟩
  · exact absurd m1 h1
  · rcases hd with ⟨_, d0, _⟩ | ⟨d0, t, a, b, E, g, inv, ⟨ht, e1⟩, ⟨hab, e2⟩, _, _, _, lo, _⟩
    · rw [m0] at d0
      exact absurd d0 (by decide)
    · rcases lo with ⟨e, _⟩ | ⟨l, hl, e, _⟩
      · exact absurd e h1
      · subst e; subst e1; subst m1
        unfold j_X2_wouldTake j_X3_wouldTake j_X3_wouldTake_uthr
        rw [if_neg hx3, if_neg hx3, if_neg (nI_pos (show l < 2 ^ 31 by omega)), if_neg (nI_pos (show l < 2 ^ 31 by omega)), if_neg h2, if_neg h2]
        exact ⟨zr_taker ht hl hc, rfl⟩
end ZR
theorem zs_or2 (h : Int64) {l c : Nat} (hl : l < 42) (hc : c < 42) : h ||| ((j_X2_bit (nI l)) ||| (j_X2_bit (nI c))) = (h ||| (j_X2_bit (nI c))) ||| (j_X2_bit (nI l)) := by
  refine zs_ext (fun d _ => ?_)
  rw [zs_or, zs_or, zs_or, zs_or, zs_bit (by omega), zs_bit (by omega)]
  cases zs_in h d <;> cases decide (d = l) <;> cases decide (d = c) <;> rfl
theorem zh_put {up : Nat → Int32} {v x : Nat} {h : Int64} (hx : x < 42) (hh : zr_hand up v h) : zr_hand (upd up x (nI v)) v (h ||| (j_X2_bit (nI x))) := by
  intro c
  rw [zs_add (by omega), hh]
  by_cases q : c = x
  · subst q; simp [zl_p, pk_us, hx]
  · have : upd up x (nI v) c = up c := pk_un q
    simp [zl_p, this, q]
theorem zh_out {up : Nat → Int32} {v w x : Nat} {h : Int64} (hv : v < 6) (hw : w < 6) (hvw : ¬ w = v) (hx : x < 42) (hh : zr_hand up v h) : zr_hand (upd up x (nI w)) v (h &&& ((j_X2_bit (nI x)) ^^^ (-1))) := by
  intro c
  rw [zs_drop (by omega), hh]
  by_cases q : c = x
  · subst q
    have : ¬ nI w = nI v := fun e => hvw ((nI_eq (by omega) (by omega)).mp e)
    simp [zl_p, pk_us, this]
  · have : upd up x (nI w) c = up c := pk_un q
    simp [zl_p, this, q]
theorem zh_keep {up : Nat → Int32} {v w x : Nat} {h : Int64} (hv : v < 6) (hw : w < 6) (hvw : ¬ w = v) (hu : ¬ up x = nI v) (hh : zr_hand up v h) : zr_hand (upd up x (nI w)) v h := by
  intro c
  rw [hh]
  by_cases q : c = x
  · subst q
    have : ¬ nI w = nI v := fun e => hvw ((nI_eq (by omega) (by omega)).mp e)
    simp [zl_p, pk_us, this, hu]
  · have : upd up x (nI w) c = up c := pk_un q
    simp [zl_p, this]
theorem zn_set (up : Nat → Int32) (v : Nat) {x : Nat} (w : Int32) (hx : x < 42) : zl_nn (upd up x w) v + (if up x = nI v then 1 else 0) = zl_nn up v + (if w = nI v then 1 else 0) := by
  have k := fb_ct_upd (zl_p up v) (decide (w = nI v)) hx
  have e : fb_ct (fun k => if k = x then decide (w = nI v) else zl_p up v k) 42 = zl_nn (upd up x w) v :=
    fb_ct_cong (fun c _ => by
      by_cases q : c = x
      · subst q; simp [zl_p, pk_us]
      · have : upd up x w c = up c := pk_un q
        simp [zl_p, this, q])
  rw [e] at k
  simpa [zl_p] using k
theorem zn_nI {v w : Nat} (hv : v < 6) (hw : w < 6) : (nI w = nI v) ↔ w = v := nI_eq (by omega) (by omega)
theorem zn_put {up : Nat → Int32} {v w x : Nat} (hv : v < 6) (hw : w < 6) (hx : x < 42) (hu : up x = nI w) (hn : ¬ w = v) : zl_nn (upd up x (nI v)) v = zl_nn up v + 1 := by
  have k := zn_set up v (nI v) hx
  rw [hu, if_neg (fun e => hn ((zn_nI hv hw).mp e)), if_pos rfl] at k
  exact k
theorem zn_out {up : Nat → Int32} {v w x : Nat} (hv : v < 6) (hw : w < 6) (hx : x < 42) (hu : up x = nI v) (hn : ¬ w = v) : zl_nn (upd up x (nI w)) v + 1 = zl_nn up v := by
  have k := zn_set up v (nI w) hx
  rw [hu, if_pos rfl, if_neg (fun e => hn ((zn_nI hv hw).mp e))] at k
  exact k
theorem zn_keep {up : Nat → Int32} {v w y x : Nat} (hv : v < 6) (hw : w < 6) (hy : y < 6) (hx : x < 42) (hu : up x = nI y) (hn : ¬ w = v) (hm : ¬ y = v) : zl_nn (upd up x (nI w)) v = zl_nn up v := by
  have k := zn_set up v (nI w) hx
  rw [hu, if_neg (fun e => hm ((zn_nI hv hy).mp e)), if_neg (fun e => hn ((zn_nI hv hw).mp e))] at k
  exact k
section ZP
variable {vrow : Nat → Int32} {vdrawn vtr vled vmov vw1 vw2 : Int32} {vh1 vt1 : Int64} {vp1 vk1 vg1 : Int32} {vh2 vt2 : Int64} {vp2 vk2 vg2 : Int32} {up ur us ut ug uw uh : Nat → Int32} {udrawn udealt uon uturn uled utr : Int32}
theorem zp_gF (h : zr_R vrow vdrawn vtr vled vmov vw1 vw2 vh1 vt1 vp1 vk1 vg1 vh2 vt2 vp2 vk2 vg2 up ur us ut ug uw uh udrawn udealt uon uturn uled utr) (h0 : ¬ vmov = (-1)) (h1 : vmov = 0) (h2 : vg1 = 0) :
    zr_R vrow vdrawn vtr vled vmov vw1 vw2 vh1 vt1 vp1 vk1 j_X2_putOnGloves_F_vg1 vh2 vt2 vp2 vk2 vg2 up ur us ut (j_X3_putOnGloves_uglv ug uon uturn) uw uh udrawn udealt uon uturn uled utr ∧ j_X2_putOnGloves_F vmov = j_X3_putOnGloves ug uon uturn ∧ j_X3_putOnGloves_uthr ug uon uturn = 0 := by
  obtain ⟨⟨w1, w2, p1, p2, k1, k2, q1, q2⟩, he, hh, ht, hm, hr, hd⟩ := h
  rcases hm with ⟨_, m1, _⟩ | ⟨m0, m1⟩
  · exact absurd m1 h0
  · have o : ¬ uon = 0 := by rw [m0]; decide
    have u0 : uturn = 0 := by rw [← m1, h1]
    have z : ug uturn.toNatClampNeg = 0 := by rw [u0, zr_c0, ← q1, h2]
    unfold j_X3_putOnGloves_uglv j_X3_putOnGloves j_X3_putOnGloves_uthr
    rw [if_neg o, if_pos z, if_neg o, if_pos z, if_neg o, if_pos z]
    refine ⟨⟨⟨w1, w2, p1, p2, k1, k2, ?_, ?_⟩, he, hh, ht, Or.inr ⟨m0, m1⟩, hr, hd⟩, m1, rfl⟩
    · rw [u0, zr_c0, pk_us]; rfl
    · rw [u0, zr_c0, pk_un (by decide)]; exact q2
theorem zp_gG (h : zr_R vrow vdrawn vtr vled vmov vw1 vw2 vh1 vt1 vp1 vk1 vg1 vh2 vt2 vp2 vk2 vg2 up ur us ut ug uw uh udrawn udealt uon uturn uled utr) (h0 : ¬ vmov = (-1)) (h1 : ¬ vmov = 0) (h2 : vg2 = 0) :
    zr_R vrow vdrawn vtr vled vmov vw1 vw2 vh1 vt1 vp1 vk1 vg1 vh2 vt2 vp2 vk2 j_X2_putOnGloves_G_vg2 up ur us ut (j_X3_putOnGloves_uglv ug uon uturn) uw uh udrawn udealt uon uturn uled utr ∧ j_X2_putOnGloves_G vmov = j_X3_putOnGloves ug uon uturn ∧ j_X3_putOnGloves_uthr ug uon uturn = 0 := by
  obtain ⟨⟨w1, w2, p1, p2, k1, k2, q1, q2⟩, he, hh, ht, hm, hr, hd⟩ := h
  rcases hm with ⟨_, m1, _⟩ | ⟨m0, m1⟩
  · exact absurd m1 h0
  · have o : ¬ uon = 0 := by rw [m0]; decide
    have u0 : uturn = 1 := by
      rcases ht with e | e
      · exact absurd (m1.trans e) h1
      · exact e
    have z : ug uturn.toNatClampNeg = 0 := by rw [u0, zr_c1, ← q2, h2]
    unfold j_X3_putOnGloves_uglv j_X3_putOnGloves j_X3_putOnGloves_uthr
    rw [if_neg o, if_pos z, if_neg o, if_pos z, if_neg o, if_pos z]
    refine ⟨⟨⟨w1, w2, p1, p2, k1, k2, ?_, ?_⟩, he, hh, ht, Or.inr ⟨m0, m1⟩, hr, hd⟩, m1, rfl⟩
    · rw [u0, zr_c1, pk_un (by decide)]; exact q1
    · rw [u0, zr_c1, pk_us]; rfl
theorem zd_ix {D : Nat} (hD : D < 30) : ((if 29 ≤ nI D then 12 else 13 + nI D) : Int32).toNatClampNeg = zr_s (12 + D) := by
  have : ∀ D, D < 30 → ((if 29 ≤ nI D then 12 else 13 + nI D) : Int32).toNatClampNeg = zr_s (12 + D) := by decide +kernel
  exact this D hD
theorem zd_up {g inv : Nat → Nat} {D : Nat} (hD : D < 30) (hr : zr_row vrow ur g inv) (x : Int32) : j_X3_draws_uplace up ur (nI D) 1 x = upd up (g (zr_s (12 + D))) x ∧ j_X3_draws_udrawn (nI D) 1 = nI (D + 1) := by
  have p : j_X3_inPile (nI D) 1 = nI (30 - D) := by
    unfold j_X3_inPile
    rw [if_neg (by decide)]
    exact pk_sub (a := 30) (b := D) (by omega)
  have n : ¬ j_X3_inPile (nI D) 1 ≤ 0 := by
    rw [p]; exact nI_nle (by omega) (by omega)
  have s42 : zr_s (12 + D) < 42 := by unfold zr_s; split <;> omega
  unfold j_X3_draws_uplace j_X3_draws_udrawn
  rw [if_neg n, if_neg n, zd_ix hD, (hr.1 _ s42).1, nI_clamp (by have := (hr.1 _ s42).2.1; omega), nI_1]
  exact ⟨rfl, rfl⟩
theorem zd_up0 (x : Int32) : j_X3_draws_uplace up ur (nI 30) 1 x = up ∧ j_X3_draws_udrawn (nI 30) 1 = nI 30 := by
  have n : j_X3_inPile (nI 30) 1 ≤ 0 := by decide
  unfold j_X3_draws_uplace j_X3_draws_udrawn
  rw [if_pos n, if_pos n]
  exact ⟨rfl, rfl⟩
theorem zd_F {g inv : Nat → Nat} {D : Nat} (hD : D < 30) (hr : zr_row vrow ur g inv) (h : Int64) : j_X2_drawFor_F_vh1 vrow (nI (12 + D)) h = h ||| (j_X2_bit (nI (g (zr_s (12 + D))))) ∧ j_X2_drawFor_F_vdrawn (nI (12 + D)) = nI (12 + D + 1) := by
  have s42 : zr_s (12 + D) < 42 := by unfold zr_s; split <;> omega
  have n1 : ¬ nI (12 + D) < 0 := nI_pos (by omega)
  have n2 : ¬ (42 : Int32) ≤ nI (12 + D) := fun e => by
    have := (nI_leI (a := 42) (b := 12 + D) (by decide) (by omega)).mp e
    omega
  unfold j_X2_drawFor_F_vh1 j_X2_drawFor_F_vdrawn
  rw [if_neg n1, if_neg n2, if_neg n1, if_neg n2, nI_clamp (by omega), hr.2 (12 + D) (by omega) (by omega), (hr.1 _ s42).1, nI_1]
  exact ⟨rfl, rfl⟩
theorem zd_F0 (h : Int64) : j_X2_drawFor_F_vh1 vrow (nI 42) h = h ∧ j_X2_drawFor_F_vdrawn (nI 42) = nI 42 := by
  unfold j_X2_drawFor_F_vh1 j_X2_drawFor_F_vdrawn
  rw [if_neg (by decide), if_pos (by decide), if_neg (by decide), if_pos (by decide)]
  exact ⟨rfl, rfl⟩
end ZP
theorem zr_sinj {i j : Nat} (hi : 12 ≤ i) (hi2 : i < 42) (hj : 12 ≤ j) (hj2 : j < 42) (e : zr_s i = zr_s j) : i = j := by
  unfold zr_s at e
  split at e <;> split at e <;> omega
theorem zr_s42 {j : Nat} (h : j < 42) : zr_s j < 42 := by unfold zr_s; split <;> omega
theorem zr_gne {vrow ur : Nat → Int32} {g inv : Nat → Nat} (hr : zr_row vrow ur g inv) {i j : Nat} (hi : 12 ≤ i) (hi2 : i < 42) (hj : 12 ≤ j) (hj2 : j < 42) (n : ¬ i = j) : ¬ g (zr_s i) = g (zr_s j) := by
  intro e
  have a := (hr.1 _ (zr_s42 hi2)).2.2
  have b := (hr.1 _ (zr_s42 hj2)).2.2
  rw [e, b] at a
  exact n (zr_sinj hi hi2 hj hj2 a.symm)
theorem zp_draw {vrow ur u2 : Nat → Int32} {τ σ E : Nat} {g inv : Nat → Nat} {k1 k2 : Int64} (hτ : τ + σ = 1) (hE : E ≤ 15) (hr : zr_row vrow ur g inv) (hp : ∀ j, 12 + 2 * E ≤ j → j < 42 → u2 (g (zr_s j)) = nI 2) (f1 : zr_hand u2 0 k1) (f2 : zr_hand u2 1 k2) (f7 : zl_nn u2 0 = zl_nn u2 1) (f8 : E < 15 → zl_nn u2 0 = 5) (f9 : zl_nn u2 0 ≤ 6) :
    ∃ (U : Nat → Int32) (H1 H2 : Int64) (E' : Nat), (j_X3_draws_uplace (j_X3_draws_uplace u2 ur (nI (2 * E)) 1 (nI τ)) ur (j_X3_draws_udrawn (nI (2 * E)) 1) 1 (nI σ) = U ∧ j_X3_draws_udrawn (j_X3_draws_udrawn (nI (2 * E)) 1) 1 = nI (2 * E') ∧ E' ≤ 15) ∧
      (τ = 0 → j_X2_drawFor_F_vh1 vrow (nI (12 + 2 * E)) k1 = H1 ∧ j_X2_drawFor_G_vh2 vrow (j_X2_drawFor_F_vdrawn (nI (12 + 2 * E))) k2 = H2 ∧ j_X2_drawFor_G_vdrawn (j_X2_drawFor_F_vdrawn (nI (12 + 2 * E))) = nI (12 + 2 * E')) ∧
      (τ = 1 → j_X2_drawFor_F_vh1 vrow (j_X2_drawFor_G_vdrawn (nI (12 + 2 * E))) k1 = H1 ∧ j_X2_drawFor_G_vh2 vrow (nI (12 + 2 * E)) k2 = H2 ∧ j_X2_drawFor_F_vdrawn (j_X2_drawFor_G_vdrawn (nI (12 + 2 * E))) = nI (12 + 2 * E')) ∧
      zr_hand U 0 H1 ∧ zr_hand U 1 H2 ∧ (∀ c, c < 42 → U c = u2 c ∨ (u2 c = nI 2 ∧ (U c = nI 0 ∨ U c = nI 1))) ∧ (∀ j, 12 + 2 * E' ≤ j → j < 42 → U (g (zr_s j)) = nI 2) ∧ zl_nn U 0 = zl_nn U 1 ∧ zl_nn U 0 ≤ 6 ∧ (E' < 15 → zl_nn U 0 = 6) := by
  by_cases e15 : E = 15
  · subst e15
    have z1 := zd_up0 (up := u2) (ur := ur) (nI τ)
    have z2 := zd_up0 (up := u2) (ur := ur) (nI σ)
    have y1 := zd_F0 (vrow := vrow) k1
    have y2 := zd_F0 (vrow := vrow) k2
    refine ⟨u2, k1, k2, 15, ⟨?_, ?_, Nat.le_refl _⟩, fun _ => ⟨y1.1, ?_, ?_⟩, fun _ => ⟨?_, y2.1, ?_⟩, f1, f2, fun c _ => Or.inl rfl, hp, f7, f9, fun h => by omega⟩
    · show j_X3_draws_uplace (j_X3_draws_uplace u2 ur (nI 30) 1 (nI τ)) ur (j_X3_draws_udrawn (nI 30) 1) 1 (nI σ) = u2
      rw [z1.1, z1.2, z2.1]
    · show j_X3_draws_udrawn (j_X3_draws_udrawn (nI 30) 1) 1 = nI 30
      rw [z1.2, z1.2]
    · show j_X2_drawFor_F_vh1 vrow (j_X2_drawFor_F_vdrawn (nI 42)) k2 = k2
      rw [y1.2, y2.1]
    · show j_X2_drawFor_F_vdrawn (j_X2_drawFor_F_vdrawn (nI 42)) = nI 42
      rw [y1.2, y1.2]
    · show j_X2_drawFor_F_vh1 vrow (j_X2_drawFor_F_vdrawn (nI 42)) k1 = k1
      rw [y1.2, y1.1]
    · show j_X2_drawFor_F_vdrawn (j_X2_drawFor_F_vdrawn (nI 42)) = nI 42
      rw [y1.2, y1.2]
  · have hE14 : E < 15 := by omega
    have i1 : 12 + 2 * E < 42 := by omega
    have i2 : 12 + 2 * E + 1 < 42 := by omega
    have d1 : g (zr_s (12 + 2 * E)) < 42 := (hr.1 _ (zr_s42 i1)).2.1
    have d2 : g (zr_s (12 + 2 * E + 1)) < 42 := (hr.1 _ (zr_s42 i2)).2.1
    have v1 : u2 (g (zr_s (12 + 2 * E))) = nI 2 := hp _ (Nat.le_refl _) i1
    have v2 : u2 (g (zr_s (12 + 2 * E + 1))) = nI 2 := hp _ (by omega) i2
    have ne : ¬ g (zr_s (12 + 2 * E + 1)) = g (zr_s (12 + 2 * E)) := zr_gne hr (by omega) i2 (by omega) i1 (by omega)
    have n5 := f8 hE14
    have A1 := fun (u : Nat → Int32) (x : Int32) => zd_up (up := u) (D := 2 * E) (by omega) hr x
    have A2 := fun (u : Nat → Int32) (x : Int32) => zd_up (up := u) (D := 2 * E + 1) (by omega) hr x
    have B1 := fun (h : Int64) => zd_F (D := 2 * E) (by omega) hr h
    have B2 := fun (h : Int64) => zd_F (D := 2 * E + 1) (by omega) hr h
    have B2' : ∀ h : Int64, j_X2_drawFor_F_vh1 vrow (nI (12 + 2 * E + 1)) h = h ||| (j_X2_bit (nI (g (zr_s (12 + 2 * E + 1))))) ∧ j_X2_drawFor_F_vdrawn (nI (12 + 2 * E + 1)) = nI (12 + 2 * (E + 1)) := fun h => B2 h
    have A2' : ∀ (u : Nat → Int32) (x : Int32), j_X3_draws_uplace u ur (nI (2 * E + 1)) 1 x = upd u (g (zr_s (12 + 2 * E + 1))) x ∧ j_X3_draws_udrawn (nI (2 * E + 1)) 1 = nI (2 * (E + 1)) := fun u x => A2 u x
    generalize hd1 : g (zr_s (12 + 2 * E)) = x1 at *
    generalize hd2 : g (zr_s (12 + 2 * E + 1)) = x2 at *
    have far : ∀ j, 12 + 2 * (E + 1) ≤ j → j < 42 → ¬ g (zr_s j) = x1 ∧ ¬ g (zr_s j) = x2 := fun j h1 h2 => ⟨by rw [← hd1]; exact zr_gne hr (by omega) h2 (by omega) i1 (by omega), by rw [← hd2]; exact zr_gne hr (by omega) h2 (by omega) i2 (by omega)⟩
    have T : (τ = 0 ∧ σ = 1) ∨ (τ = 1 ∧ σ = 0) := by omega
    rcases T with ⟨t1, t2⟩ | ⟨t1, t2⟩
    · subst t1; subst t2
      have w2 : (upd u2 x1 (nI 0)) x2 = nI 2 := by rw [pk_un ne]; exact v2
      refine ⟨upd (upd u2 x1 (nI 0)) x2 (nI 1), k1 ||| (j_X2_bit (nI x1)), k2 ||| (j_X2_bit (nI x2)), E + 1, ⟨?_, ?_, by omega⟩, fun _ => ⟨(B1 k1).1, ?_, ?_⟩, fun h => absurd h (by decide), ?_, ?_, fun c hc => ?_, fun j h1 h2 => ?_, ?_, ?_, fun _ => ?_⟩
      · rw [(A1 u2 (nI 0)).1, (A1 u2 (nI 0)).2, (A2' _ (nI 1)).1]
      · rw [(A1 u2 (nI 0)).2, (A2' u2 (nI 1)).2]
      · show j_X2_drawFor_F_vh1 vrow (j_X2_drawFor_F_vdrawn (nI (12 + 2 * E))) k2 = _
        rw [(B1 k1).2, (B2' k2).1]
      · show j_X2_drawFor_F_vdrawn (j_X2_drawFor_F_vdrawn (nI (12 + 2 * E))) = _
        rw [(B1 k1).2, (B2' k2).2]
      · exact zh_keep (by decide) (by decide) (by decide) (by rw [w2]; decide) (zh_put d1 f1)
      · exact zh_put d2 (zh_keep (by decide) (by decide) (by decide) (by rw [v1]; decide) f2)
      · by_cases q2 : c = x2
        · subst q2; exact Or.inr ⟨v2, Or.inr pk_us⟩
        · by_cases q1 : c = x1
          · subst q1; exact Or.inr ⟨v1, Or.inl (by rw [pk_un q2, pk_us])⟩
          · exact Or.inl (by rw [pk_un q2, pk_un q1])
      · obtain ⟨m1, m2⟩ := far j h1 h2
        rw [pk_un m2, pk_un m1]; exact hp j (by omega) h2
      · rw [zn_keep (v := 0) (w := 1) (y := 2) (by decide) (by decide) (by decide) d2 w2 (by decide) (by decide), zn_put (v := 0) (w := 2) (by decide) (by decide) d1 v1 (by decide), zn_put (v := 1) (w := 2) (by decide) (by decide) d2 w2 (by decide), zn_keep (v := 1) (w := 0) (y := 2) (by decide) (by decide) (by decide) d1 v1 (by decide) (by decide), f7]
      · rw [zn_keep (v := 0) (w := 1) (y := 2) (by decide) (by decide) (by decide) d2 w2 (by decide) (by decide), zn_put (v := 0) (w := 2) (by decide) (by decide) d1 v1 (by decide), n5]
        decide
      · rw [zn_keep (v := 0) (w := 1) (y := 2) (by decide) (by decide) (by decide) d2 w2 (by decide) (by decide), zn_put (v := 0) (w := 2) (by decide) (by decide) d1 v1 (by decide), n5]
    · subst t1; subst t2
      have w2 : (upd u2 x1 (nI 1)) x2 = nI 2 := by rw [pk_un ne]; exact v2
      refine ⟨upd (upd u2 x1 (nI 1)) x2 (nI 0), k1 ||| (j_X2_bit (nI x2)), k2 ||| (j_X2_bit (nI x1)), E + 1, ⟨?_, ?_, by omega⟩, fun h => absurd h (by decide), fun _ => ⟨?_, (B1 k2).1, ?_⟩, ?_, ?_, fun c hc => ?_, fun j h1 h2 => ?_, ?_, ?_, fun _ => ?_⟩
      · rw [(A1 u2 (nI 1)).1, (A1 u2 (nI 1)).2, (A2' _ (nI 0)).1]
      · rw [(A1 u2 (nI 1)).2, (A2' u2 (nI 0)).2]
      · show j_X2_drawFor_F_vh1 vrow (j_X2_drawFor_F_vdrawn (nI (12 + 2 * E))) k1 = _
        rw [(B1 k1).2, (B2' k1).1]
      · show j_X2_drawFor_F_vdrawn (j_X2_drawFor_F_vdrawn (nI (12 + 2 * E))) = _
        rw [(B1 k1).2, (B2' k2).2]
      · exact zh_put d2 (zh_keep (by decide) (by decide) (by decide) (by rw [v1]; decide) f1)
      · exact zh_keep (by decide) (by decide) (by decide) (by rw [w2]; decide) (zh_put d1 f2)
      · by_cases q2 : c = x2
        · subst q2; exact Or.inr ⟨v2, Or.inl pk_us⟩
        · by_cases q1 : c = x1
          · subst q1; exact Or.inr ⟨v1, Or.inr (by rw [pk_un q2, pk_us])⟩
          · exact Or.inl (by rw [pk_un q2, pk_un q1])
      · obtain ⟨m1, m2⟩ := far j h1 h2
        rw [pk_un m2, pk_un m1]; exact hp j (by omega) h2
      · rw [zn_put (v := 0) (w := 2) (by decide) (by decide) d2 w2 (by decide), zn_keep (v := 0) (w := 1) (y := 2) (by decide) (by decide) (by decide) d1 v1 (by decide) (by decide), zn_keep (v := 1) (w := 0) (y := 2) (by decide) (by decide) (by decide) d2 w2 (by decide) (by decide), zn_put (v := 1) (w := 2) (by decide) (by decide) d1 v1 (by decide), f7]
      · rw [zn_put (v := 0) (w := 2) (by decide) (by decide) d2 w2 (by decide), zn_keep (v := 0) (w := 1) (y := 2) (by decide) (by decide) (by decide) d1 v1 (by decide) (by decide), n5]
        decide
      · rw [zn_put (v := 0) (w := 2) (by decide) (by decide) d2 w2 (by decide), zn_keep (v := 0) (w := 1) (y := 2) (by decide) (by decide) (by decide) d1 v1 (by decide) (by decide), n5]
theorem zp_over {U : Nat → Int32} {H1 H2 : Int64} (h1 : zr_hand U 0 H1) (h2 : zr_hand U 1 H2) (e : zl_nn U 0 = zl_nn U 1) : (lg_cmp (H1 ||| H2) 0 = 0 ↔ zl_nn U 0 = 0) ∧ (j_X3_howMany U 1 0 + j_X3_howMany U 1 1 = 0 ↔ zl_nn U 0 = 0) := by
  have a0 : j_X3_howMany U 1 0 = nI (zl_nn U 0) := zl_hm U 0 (by decide)
  have a1 : j_X3_howMany U 1 1 = nI (zl_nn U 1) := zl_hm U 1 (by decide)
  have le : zl_nn U 1 ≤ 42 := fb_ct_le _ 42
  constructor
  · have z1 := zs_ct_nil (zl_hw U h1)
    have z2 := zs_ct_nil (zl_hw U h2)
    rw [zl_hct U h1] at z1
    rw [zl_hct U h2] at z2
    rw [zs_cmp]
    constructor
    · intro k
      refine z1.mpr (zs_nil.mpr (fun c hc => ?_))
      have := k c hc
      rw [zs_or] at this
      simp at this
      exact this.1
    · intro k c hc
      rw [zs_or, zs_nil.mp (z1.mp k) c hc, zs_nil.mp (z2.mp (by omega)) c hc]; rfl
  · rw [a0, a1, nI_add, e]
    exact (nI_eq (a := zl_nn U 1 + zl_nn U 1) (b := 0) (by omega) (by decide)).trans (by omega)
section ZP
variable {vrow : Nat → Int32} {vdrawn vtr vled vmov vw1 vw2 : Int32} {vh1 vt1 : Int64} {vp1 vk1 vg1 : Int32} {vh2 vt2 : Int64} {vp2 vk2 vg2 : Int32} {up ur us ut ug uw uh : Nat → Int32} {udrawn udealt uon uturn uled utr x0 : Int32}
theorem zp_w1 (hT : j_X2_takerBy vtr vled vmov x0 = 0 ∨ j_X2_takerBy vtr vled vmov x0 = 1) : j_X2_finishTrick_vw1 vrow vdrawn vtr vled vmov vw1 vh1 vp1 vg1 vh2 vp2 vg2 x0 = if lg_cmp ((j_X2_finishTrick_vh1 vrow vdrawn vtr vled vmov vh1 x0) ||| (j_X2_finishTrick_vh2 vrow vdrawn vtr vled vmov vh2 x0)) 0 = 0 then j_X2_endGame_vw1 vw1 (j_X2_finishTrick_vp1 vtr vled vmov vp1 vg1 x0) (j_X2_finishTrick_vp2 vtr vled vmov vp2 vg2 x0) else vw1 := by
  have n1 : ¬ ((1 : Int32) - 0 = 0) := by decide
  have n2 : (1 : Int32) - 1 = 0 := by decide
  have n3 : ¬ (1 : Int32) = 0 := by decide
  unfold j_X2_finishTrick_vw1 j_X2_finishTrick_vh1 j_X2_finishTrick_vh2 j_X2_finishTrick_vp1 j_X2_finishTrick_vp2
  rcases hT with e | e
  · rw [e]
    by_cases q : vg1 = 1
    · simp only [if_pos q, if_neg n1, if_pos rfl, ite_true]
    · simp only [if_neg q, if_neg n1, if_pos rfl, ite_true]
  · rw [e]
    by_cases q : vg2 = 1
    · simp only [if_pos q, n2, if_neg n3, if_pos rfl, ite_true]
    · simp only [if_neg q, n2, if_neg n3, if_pos rfl, ite_true]
theorem zp_w2 (hT : j_X2_takerBy vtr vled vmov x0 = 0 ∨ j_X2_takerBy vtr vled vmov x0 = 1) : j_X2_finishTrick_vw2 vrow vdrawn vtr vled vmov vw2 vh1 vp1 vg1 vh2 vp2 vg2 x0 = if lg_cmp ((j_X2_finishTrick_vh1 vrow vdrawn vtr vled vmov vh1 x0) ||| (j_X2_finishTrick_vh2 vrow vdrawn vtr vled vmov vh2 x0)) 0 = 0 then j_X2_endGame_vw2 vw2 (j_X2_finishTrick_vp1 vtr vled vmov vp1 vg1 x0) (j_X2_finishTrick_vp2 vtr vled vmov vp2 vg2 x0) else vw2 := by
  have n1 : ¬ ((1 : Int32) - 0 = 0) := by decide
  have n2 : (1 : Int32) - 1 = 0 := by decide
  have n3 : ¬ (1 : Int32) = 0 := by decide
  unfold j_X2_finishTrick_vw2 j_X2_finishTrick_vh1 j_X2_finishTrick_vh2 j_X2_finishTrick_vp1 j_X2_finishTrick_vp2
  rcases hT with e | e
  · rw [e]
    by_cases q : vg1 = 1
    · simp only [if_pos q, if_neg n1, if_pos rfl, ite_true]
    · simp only [if_neg q, if_neg n1, if_pos rfl, ite_true]
  · rw [e]
    by_cases q : vg2 = 1
    · simp only [if_pos q, n2, if_neg n3, if_pos rfl, ite_true]
    · simp only [if_neg q, n2, if_neg n3, if_pos rfl, ite_true]
theorem zp_m (hT : j_X2_takerBy vtr vled vmov x0 = 0 ∨ j_X2_takerBy vtr vled vmov x0 = 1) : j_X2_finishTrick_vmov vrow vdrawn vtr vled vmov vh1 vh2 x0 = if lg_cmp ((j_X2_finishTrick_vh1 vrow vdrawn vtr vled vmov vh1 x0) ||| (j_X2_finishTrick_vh2 vrow vdrawn vtr vled vmov vh2 x0)) 0 = 0 then (-1) else j_X2_takerBy vtr vled vmov x0 := by
  have n1 : ¬ ((1 : Int32) - 0 = 0) := by decide
  have n2 : (1 : Int32) - 1 = 0 := by decide
  have n3 : ¬ (1 : Int32) = 0 := by decide
  unfold j_X2_finishTrick_vmov j_X2_finishTrick_vh1 j_X2_finishTrick_vh2 j_X2_endGame_vmov
  rcases hT with e | e
  · rw [e]
    simp only [if_neg n1, if_pos rfl, ite_true]
  · rw [e]
    simp only [n2, if_neg n3, if_pos rfl, ite_true]
/-- the reference's, in one shape -/
theorem zp_uw : j_X3_ends_uwin up ur us ug uw udrawn udealt uturn uled utr x0 = if (j_X3_howMany (j_X3_ends_uplace up ur udrawn udealt uturn uled utr x0) udealt 0) + (j_X3_howMany (j_X3_ends_uplace up ur udrawn udealt uturn uled utr x0) udealt 1) = 0 then upd (upd uw (0 : Int32).toNatClampNeg ((uw (0 : Int32).toNatClampNeg) + ((if (j_X3_ends_upts us ug uturn uled utr x0) (0 : Int32).toNatClampNeg ≤ (j_X3_ends_upts us ug uturn uled utr x0) (1 : Int32).toNatClampNeg then 0 else 1) : Int32))) (1 : Int32).toNatClampNeg (((upd uw (0 : Int32).toNatClampNeg ((uw (0 : Int32).toNatClampNeg) + ((if (j_X3_ends_upts us ug uturn uled utr x0) (0 : Int32).toNatClampNeg ≤ (j_X3_ends_upts us ug uturn uled utr x0) (1 : Int32).toNatClampNeg then 0 else 1) : Int32))) (1 : Int32).toNatClampNeg) + ((if (j_X3_ends_upts us ug uturn uled utr x0) (1 : Int32).toNatClampNeg ≤ (j_X3_ends_upts us ug uturn uled utr x0) (0 : Int32).toNatClampNeg then 0 else 1) : Int32)) else uw := rfl
theorem zp_uo : j_X3_ends_uon up ur udrawn udealt uon uturn uled utr x0 = if (j_X3_howMany (j_X3_ends_uplace up ur udrawn udealt uturn uled utr x0) udealt 0) + (j_X3_howMany (j_X3_ends_uplace up ur udrawn udealt uturn uled utr x0) udealt 1) = 0 then 0 else uon := rfl
end ZP
theorem zi_tot {a b : Int32} (h : ¬ a ≤ b) : b ≤ a := by
  have : ¬ a.toInt ≤ b.toInt := fun e => h (Int32.le_iff_toInt_le.mpr e)
  exact Int32.le_iff_toInt_le.mpr (by omega)
theorem zp_glv (ug : Nat → Int32) : j_X3_ends_uglv ug 0 = j_X0_loseWornGloves_vg (ug 0) ∧ j_X3_ends_uglv ug 1 = j_X0_loseWornGloves_vg (ug 1) := by
  unfold j_X3_ends_uglv j_X0_loseWornGloves_vg
  rw [zr_c0, zr_c1]
  constructor
  · rw [pk_un (by decide), pk_us]
  · rw [pk_us, pk_un (by decide)]
theorem zp_pts {us ug : Nat → Int32} {t a l c τ : Nat} {vp1 vp2 vg1 vg2 : Int32} (hτ : τ < 2) (Tm : (if j_X3_takes (nI t) (nI c) (nI l) = 0 then 1 - nI a else nI a) = nI τ) (Tc : j_X2_takerBy (nI t) (nI l) (nI a) (nI c) = nI τ) (p1 : vp1 = us 0) (p2 : vp2 = us 1) (q1 : vg1 = ug 0) (q2 : vg2 = ug 1) :
    j_X2_finishTrick_vp1 (nI t) (nI l) (nI a) vp1 vg1 (nI c) = j_X3_ends_upts us ug (nI a) (nI l) (nI t) (nI c) 0 ∧ j_X2_finishTrick_vp2 (nI t) (nI l) (nI a) vp2 vg2 (nI c) = j_X3_ends_upts us ug (nI a) (nI l) (nI t) (nI c) 1 := by
  subst p1; subst p2; subst q1; subst q2
  unfold j_X2_finishTrick_vp1 j_X2_finishTrick_vp2 j_X3_ends_upts
  rw [Tc, Tm, nI_clamp (by omega)]
  have : τ = 0 ∨ τ = 1 := by omega
  rcases this with e | e
  · subst e
    have c0 : nI 0 = 0 := by decide
    rw [if_pos c0, if_pos c0, pk_us, pk_un (by decide)]
    refine ⟨?_, rfl⟩
    by_cases g : ug 0 = 1
    · rw [if_pos g, if_pos g, zm_worth, zm_worth, Int32.add_comm (j_X2_worth (nI l) 1)]
    · rw [if_neg g, if_neg g, zm_worth, zm_worth, Int32.add_comm (j_X2_worth (nI l) 0)]
  · subst e
    have c0 : ¬ nI 1 = 0 := by decide
    rw [if_neg c0, if_neg c0, pk_un (by decide), pk_us]
    refine ⟨rfl, ?_⟩
    by_cases g : ug 1 = 1
    · rw [if_pos g, if_pos g, zm_worth, zm_worth, Int32.add_comm (j_X2_worth (nI l) 1)]
    · rw [if_neg g, if_neg g, zm_worth, zm_worth, Int32.add_comm (j_X2_worth (nI l) 0)]
theorem zp_tks {ut : Nat → Int32} {t a l c τ : Nat} {vk1 vk2 : Int32} (hτ : τ < 2) (Tm : (if j_X3_takes (nI t) (nI c) (nI l) = 0 then 1 - nI a else nI a) = nI τ) (Tc : j_X2_takerBy (nI t) (nI l) (nI a) (nI c) = nI τ) (p1 : vk1 = ut 0) (p2 : vk2 = ut 1) :
    j_X2_finishTrick_vk1 (nI t) (nI l) (nI a) vk1 (nI c) = j_X3_ends_utks ut (nI a) (nI l) (nI t) (nI c) 0 ∧ j_X2_finishTrick_vk2 (nI t) (nI l) (nI a) vk2 (nI c) = j_X3_ends_utks ut (nI a) (nI l) (nI t) (nI c) 1 := by
  subst p1; subst p2
  unfold j_X2_finishTrick_vk1 j_X2_finishTrick_vk2 j_X3_ends_utks
  rw [Tc, Tm, nI_clamp (by omega)]
  have : τ = 0 ∨ τ = 1 := by omega
  rcases this with e | e
  · subst e
    rw [if_pos (by decide), if_pos (by decide), pk_us, pk_un (by decide)]
    exact ⟨rfl, rfl⟩
  · subst e
    rw [if_neg (by decide), if_neg (by decide), pk_un (by decide), pk_us]
    exact ⟨rfl, rfl⟩
section ZP
variable {vrow : Nat → Int32} {vw1 vw2 : Int32} {vt1 : Int64} {vp1 vk1 vg1 : Int32} {vt2 : Int64} {vp2 vk2 vg2 : Int32} {up ur us ut ug uw uh : Nat → Int32}
theorem zp_fin {t a b l c E : Nat} {g inv : Nat → Nat} {k1 k2 : Int64} (ht : t < 4) (hab : a + b = 1) (hE : E ≤ 15) (hl : l < 42) (hc : c < 42) (hr : zr_row vrow ur g inv) (hur : ∀ j, j < 42 → vp_in (ur j) 42) (hp : ∀ j, 12 + 2 * E ≤ j → j < 42 → up (g (zr_s j)) = nI 2) (hpl : ∀ c, c < 42 → ∃ v, v < 6 ∧ up c = nI v) (h3 : ∀ c, c < 42 → (up c = nI 3 ↔ c = l)) (huc : up c = nI a)
    (hk1 : ∀ w, w < 6 → 4 ≤ w → zr_hand (upd up c (nI w)) 0 k1) (hk2 : ∀ w, w < 6 → 4 ≤ w → zr_hand (upd up c (nI w)) 1 k2) (g4 : zr_hand up 4 vt1) (g5 : zr_hand up 5 vt2) (hn : zl_nn up a = zl_nn up b + 1) (hn6 : zl_nn up a ≤ 6) (hn15 : E < 15 → zl_nn up a = 6)
    (hs : vw1 = uw 0 ∧ vw2 = uw 1 ∧ vp1 = us 0 ∧ vp2 = us 1 ∧ vk1 = ut 0 ∧ vk2 = ut 1 ∧ vg1 = ug 0 ∧ vg2 = ug 1) (hh : ∀ j, j < 12 → vp_in (uh j) 42) :
    zr_R vrow (j_X2_finishTrick_vdrawn (nI (12 + 2 * E)) (nI t) (nI l) (nI a) (nI c)) (nI t) (-1) (j_X2_finishTrick_vmov vrow (nI (12 + 2 * E)) (nI t) (nI l) (nI a) k1 k2 (nI c)) (j_X2_finishTrick_vw1 vrow (nI (12 + 2 * E)) (nI t) (nI l) (nI a) vw1 k1 vp1 vg1 k2 vp2 vg2 (nI c)) (j_X2_finishTrick_vw2 vrow (nI (12 + 2 * E)) (nI t) (nI l) (nI a) vw2 k1 vp1 vg1 k2 vp2 vg2 (nI c)) (j_X2_finishTrick_vh1 vrow (nI (12 + 2 * E)) (nI t) (nI l) (nI a) k1 (nI c)) (j_X2_finishTrick_vt1 (nI t) (nI l) (nI a) vt1 (nI c)) (j_X2_finishTrick_vp1 (nI t) (nI l) (nI a) vp1 vg1 (nI c)) (j_X2_finishTrick_vk1 (nI t) (nI l) (nI a) vk1 (nI c)) (j_X2_finishTrick_vg1 vg1) (j_X2_finishTrick_vh2 vrow (nI (12 + 2 * E)) (nI t) (nI l) (nI a) k2 (nI c)) (j_X2_finishTrick_vt2 (nI t) (nI l) (nI a) vt2 (nI c)) (j_X2_finishTrick_vp2 (nI t) (nI l) (nI a) vp2 vg2 (nI c)) (j_X2_finishTrick_vk2 (nI t) (nI l) (nI a) vk2 (nI c)) (j_X2_finishTrick_vg2 vg2) (j_X3_ends_uplace up ur (nI (2 * E)) 1 (nI a) (nI l) (nI t) (nI c)) ur (j_X3_ends_upts us ug (nI a) (nI l) (nI t) (nI c)) (j_X3_ends_utks ut (nI a) (nI l) (nI t) (nI c)) (j_X3_ends_uglv ug) (j_X3_ends_uwin up ur us ug uw (nI (2 * E)) 1 (nI a) (nI l) (nI t) (nI c)) uh (j_X3_ends_udrawn (nI (2 * E)) 1) 1 (j_X3_ends_uon up ur (nI (2 * E)) 1 1 (nI a) (nI l) (nI t) (nI c)) (j_X3_ends_uturn (nI a) (nI l) (nI t) (nI c)) (-1) (nI t) := by
  obtain ⟨w1, w2, p1, p2, n1, n2, q1, q2⟩ := hs
  obtain ⟨τ, σ, hτ, Tm⟩ : ∃ τ σ, τ + σ = 1 ∧ (if j_X3_takes (nI t) (nI c) (nI l) = 0 then 1 - nI a else nI a) = nI τ := by
    by_cases q : j_X3_takes (nI t) (nI c) (nI l) = 0
    · exact ⟨b, a, by omega, by rw [if_pos q, zm_fl hab]⟩
    · exact ⟨a, b, hab, by rw [if_neg q]⟩
  have Tc : j_X2_takerBy (nI t) (nI l) (nI a) (nI c) = nI τ := (zr_taker ht hl hc).trans Tm
  have hτ2 : τ < 2 := by omega
  have T01 : j_X2_takerBy (nI t) (nI l) (nI a) (nI c) = 0 ∨ j_X2_takerBy (nI t) (nI l) (nI a) (nI c) = 1 := by
    rw [Tc]
    have : τ = 0 ∨ τ = 1 := by omega
    rcases this with e | e
    · subst e; exact Or.inl (by decide)
    · subst e; exact Or.inr (by decide)
  have ul : up l = nI 3 := (h3 l hl).mpr rfl
  have hcl : ¬ l = c := by
    intro e
    rw [e, huc] at ul
    have := (zn_nI (v := 3) (w := a) (by decide) (by omega)).mp ul
    omega
  have hab2 : (a = 0 ∧ b = 1) ∨ (a = 1 ∧ b = 0) := by omega
  -- behind the trick, ahead of the draws
  have u1l : (upd up c (nI (4 + τ))) l = nI 3 := by rw [pk_un hcl]; exact ul
  have f1 : zr_hand (upd (upd up c (nI (4 + τ))) l (nI (4 + τ))) 0 k1 := zh_keep (by decide) (by omega) (by omega) (by rw [u1l]; decide) (hk1 (4 + τ) (by omega) (by omega))
  have f2 : zr_hand (upd (upd up c (nI (4 + τ))) l (nI (4 + τ))) 1 k2 := zh_keep (by decide) (by omega) (by omega) (by rw [u1l]; decide) (hk2 (4 + τ) (by omega) (by omega))
  have cn : ∀ v, 4 ≤ v → v < 6 → ¬ up c = nI v := fun v h1 h2 e => by
    rw [huc] at e
    have := (zn_nI (v := v) (w := a) h2 (by omega)).mp e
    omega
  have f4 : zr_hand (upd (upd up c (nI (4 + τ))) l (nI (4 + τ))) 4 (j_X2_finishTrick_vt1 (nI t) (nI l) (nI a) vt1 (nI c)) := by
    unfold j_X2_finishTrick_vt1
    rw [Tc]
    have : τ = 0 ∨ τ = 1 := by omega
    rcases this with e | e
    · subst e
      rw [if_pos (by decide), zs_or2 _ hl hc]
      exact zh_put hl (zh_put hc g4)
    · subst e
      rw [if_neg (by decide)]
      exact zh_keep (by decide) (by decide) (by decide) (by rw [u1l]; decide) (zh_keep (by decide) (by decide) (by decide) (cn 4 (by decide) (by decide)) g4)
  have f5 : zr_hand (upd (upd up c (nI (4 + τ))) l (nI (4 + τ))) 5 (j_X2_finishTrick_vt2 (nI t) (nI l) (nI a) vt2 (nI c)) := by
    unfold j_X2_finishTrick_vt2
    rw [Tc]
    have : τ = 0 ∨ τ = 1 := by omega
    rcases this with e | e
    · subst e
      rw [if_pos (by decide)]
      exact zh_keep (by decide) (by decide) (by decide) (by rw [u1l]; decide) (zh_keep (by decide) (by decide) (by decide) (cn 5 (by decide) (by decide)) g5)
    · subst e
      rw [if_neg (by decide), zs_or2 _ hl hc]
      exact zh_put hl (zh_put hc g5)
  have f6 : ∀ d, d < 42 → ∃ v, v < 6 ∧ (upd (upd up c (nI (4 + τ))) l (nI (4 + τ))) d = nI v ∧ ¬ v = 3 := by
    intro d hd
    by_cases e : d = l
    · subst e; exact ⟨4 + τ, by omega, pk_us, by omega⟩
    · rw [pk_un e]
      by_cases e2 : d = c
      · subst e2; exact ⟨4 + τ, by omega, pk_us, by omega⟩
      · rw [pk_un e2]
        obtain ⟨v, hv, u⟩ := hpl d hd
        exact ⟨v, hv, u, fun z => e ((h3 d hd).mp (by rw [u, z]))⟩
  have m1 : ∀ v, v < 2 → zl_nn (upd (upd up c (nI (4 + τ))) l (nI (4 + τ))) v = zl_nn (upd up c (nI (4 + τ))) v := fun v hv => zn_keep (y := 3) (by omega) (by omega) (by decide) hl u1l (by omega) (by omega)
  have mA : zl_nn (upd up c (nI (4 + τ))) a + 1 = zl_nn up a := zn_out (by omega) (by omega) hc huc (by omega)
  have mB : zl_nn (upd up c (nI (4 + τ))) b = zl_nn up b := zn_keep (y := a) (by omega) (by omega) (by omega) hc huc (by omega) (by omega)
  have f7 : zl_nn (upd (upd up c (nI (4 + τ))) l (nI (4 + τ))) 0 = zl_nn (upd (upd up c (nI (4 + τ))) l (nI (4 + τ))) 1 ∧ zl_nn (upd (upd up c (nI (4 + τ))) l (nI (4 + τ))) 0 + 1 = zl_nn up a := by
    rw [m1 0 (by decide), m1 1 (by decide)]
    rcases hab2 with ⟨e1, e2⟩ | ⟨e1, e2⟩
    · subst e1; subst e2; omega
    · subst e1; subst e2; omega
  have f8 : ∀ j, 12 + 2 * E ≤ j → j < 42 → (upd (upd up c (nI (4 + τ))) l (nI (4 + τ))) (g (zr_s j)) = nI 2 := by
    intro j h1 h2
    have u := hp j h1 h2
    have x1 : ¬ g (zr_s j) = l := fun e => by rw [e, ul] at u; exact absurd u (by decide)
    have x2 : ¬ g (zr_s j) = c := fun e => by
      rw [e, huc] at u
      have := (zn_nI (v := 2) (w := a) (by decide) (by omega)).mp u
      omega
    rw [pk_un x1, pk_un x2]
    exact u
  obtain ⟨U, H1, H2, E', ⟨eU, eD, hE'⟩, cA, cB, F1, F2, F3, F4, F5, F6, F7⟩ := zp_draw hτ hE hr f8 f1 f2 f7.1 (fun h => by have := hn15 h; omega) (by omega)
  have eUp : j_X3_ends_uplace up ur (nI (2 * E)) 1 (nI a) (nI l) (nI t) (nI c) = U := by
    unfold j_X3_ends_uplace
    have e4 : (4 : Int32) + nI τ = nI (4 + τ) := nI_add 4 τ
    rw [Tm, e4, nI_clamp (show c < 2 ^ 31 by omega), nI_clamp (show l < 2 ^ 31 by omega), zm_fl hτ]
    exact eU
  have eDr : j_X3_ends_udrawn (nI (2 * E)) 1 = nI (2 * E') := eD
  have eTu : j_X3_ends_uturn (nI a) (nI l) (nI t) (nI c) = nI τ := Tm
  have cH : j_X2_finishTrick_vh1 vrow (nI (12 + 2 * E)) (nI t) (nI l) (nI a) k1 (nI c) = H1 ∧ j_X2_finishTrick_vh2 vrow (nI (12 + 2 * E)) (nI t) (nI l) (nI a) k2 (nI c) = H2 ∧ j_X2_finishTrick_vdrawn (nI (12 + 2 * E)) (nI t) (nI l) (nI a) (nI c) = nI (12 + 2 * E') := by
    unfold j_X2_finishTrick_vh1 j_X2_finishTrick_vh2 j_X2_finishTrick_vdrawn
    rw [Tc]
    have : τ = 0 ∨ τ = 1 := by omega
    rcases this with e | e
    · obtain ⟨y1, y2, y3⟩ := cA e
      subst e
      rw [if_pos (by decide), if_neg (by decide), if_pos (by decide), if_neg (by decide), if_pos (by decide), if_neg (by decide)]
      exact ⟨y1, y2, y3⟩
    · obtain ⟨y1, y2, y3⟩ := cB e
      subst e
      rw [if_neg (by decide), if_pos (by decide), if_neg (by decide), if_pos (by decide), if_neg (by decide), if_pos (by decide)]
      exact ⟨y1, y2, y3⟩
  obtain ⟨cH1, cH2, cD⟩ := cH
  obtain ⟨ov1, ov2⟩ := zp_over F1 F2 F5
  have P := zp_pts (us := us) (ug := ug) hτ2 Tm Tc p1 p2 q1 q2
  have K := zp_tks (ut := ut) hτ2 Tm Tc n1 n2
  have G := zp_glv ug
  rw [zp_w1 T01, zp_w2 T01, zp_m T01, zp_uw, zp_uo, cH1, cH2, cD, eUp, eDr, eTu, Tc, zr_c0, zr_c1]
  have noU3 : ∀ d, d < 42 → ¬ U d = nI 3 := by
    intro d hd e
    rcases F3 d hd with u | ⟨_, u | u⟩
    · obtain ⟨v, hv, x, n⟩ := f6 d hd
      rw [u, x] at e
      exact n ((zn_nI (v := 3) (w := v) (by decide) hv).mp e)
    · rw [u] at e; exact absurd e (by decide)
    · rw [u] at e; exact absurd e (by decide)
  have far : ∀ v, v = 4 ∨ v = 5 → ∀ h : Int64, zr_hand (upd (upd up c (nI (4 + τ))) l (nI (4 + τ))) v h → zr_hand U v h := by
    intro v hv h hh d
    rw [hh]
    by_cases hd : d < 42
    · rcases F3 d hd with u | ⟨u0, u⟩
      · simp [zl_p, u]
      · have z1 : ¬ (upd (upd up c (nI (4 + τ))) l (nI (4 + τ))) d = nI v := by
          rw [u0]
          intro z
          have := (zn_nI (v := v) (w := 2) (by omega) (by decide)).mp z
          omega
        have z2 : ¬ U d = nI v := by
          intro z
          rcases u with u | u
          · rw [u] at z
            have := (zn_nI (v := v) (w := 0) (by omega) (by decide)).mp z
            omega
          · rw [u] at z
            have := (zn_nI (v := v) (w := 1) (by omega) (by decide)).mp z
            omega
        simp [zl_p, z1, z2]
    · simp [hd]
  have plU : ∀ d, d < 42 → ∃ v, v < 6 ∧ U d = nI v := by
    intro d hd
    rcases F3 d hd with u | ⟨_, u | u⟩
    · obtain ⟨v, hv, x, _⟩ := f6 d hd
      exact ⟨v, hv, by rw [u]; exact x⟩
    · exact ⟨0, by decide, u⟩
    · exact ⟨1, by decide, u⟩
  have nU : ∀ v, v < 2 → zl_nn U v = zl_nn U 0 := by
    intro v hv
    have : v = 0 ∨ v = 1 := by omega
    rcases this with e | e
    · rw [e]
    · rw [e]; exact F5.symm
  have hD : ∀ on : Int32, (on = 1 → ¬ zl_nn U 0 = 0) → zr_D vrow ur U (nI (12 + 2 * E')) (nI t) (-1) H1 (j_X2_finishTrick_vt1 (nI t) (nI l) (nI a) vt1 (nI c)) H2 (j_X2_finishTrick_vt2 (nI t) (nI l) (nI a) vt2 (nI c)) (nI (2 * E')) on (nI τ) := by
    intro on hon
    refine ⟨t, τ, σ, E', g, inv, ⟨ht, rfl⟩, ⟨hτ, rfl⟩, ⟨hE', rfl, rfl⟩, ⟨F1, F2, far 4 (Or.inl rfl) _ f4, far 5 (Or.inr rfl) _ f5⟩, plU, Or.inl ⟨rfl, noU3⟩, hr, F4, ⟨F6, by rw [← F5]; exact F6⟩, fun e => ?_⟩
    have := hon e
    rw [nU τ hτ2, nU σ (by omega)]
    exact ⟨Or.inl ⟨rfl, rfl⟩, by omega, F7⟩
  have ur01 : nI τ = 0 ∨ nI τ = 1 := by rw [← Tc]; exact T01
  by_cases z : zl_nn U 0 = 0
  · rw [if_pos (ov1.mpr z), if_pos (ov1.mpr z), if_pos (ov1.mpr z), if_pos (ov2.mpr z), if_pos (ov2.mpr z)]
    refine ⟨⟨?_, ?_, P.1, P.2, K.1, K.2, by rw [q1]; exact G.1.symm, by rw [q2]; exact G.2.symm⟩, ⟨rfl, rfl⟩, hh, ur01, Or.inl ⟨rfl, rfl, rfl⟩, hur, Or.inr ⟨rfl, hD 0 (fun e => absurd e (by decide))⟩⟩
    · rw [pk_un (by decide), pk_us, ← P.1, ← P.2, ← w1]
      unfold j_X2_endGame_vw1
      by_cases y : j_X2_finishTrick_vp1 (nI t) (nI l) (nI a) vp1 vg1 (nI c) ≤ j_X2_finishTrick_vp2 (nI t) (nI l) (nI a) vp2 vg2 (nI c)
      · rw [if_pos y, if_pos y, Int32.add_zero]
      · rw [if_neg y, if_neg y]
    · rw [pk_us, pk_un (by decide), ← P.1, ← P.2, ← w2]
      unfold j_X2_endGame_vw2
      by_cases y : j_X2_finishTrick_vp1 (nI t) (nI l) (nI a) vp1 vg1 (nI c) ≤ j_X2_finishTrick_vp2 (nI t) (nI l) (nI a) vp2 vg2 (nI c)
      · rw [if_pos y]
        by_cases x : j_X2_finishTrick_vp2 (nI t) (nI l) (nI a) vp2 vg2 (nI c) ≤ j_X2_finishTrick_vp1 (nI t) (nI l) (nI a) vp1 vg1 (nI c)
        · rw [if_pos x, if_pos x, Int32.add_zero]
        · rw [if_neg x, if_neg x]
      · rw [if_neg y, if_pos (zi_tot y), Int32.add_zero]
  · rw [if_neg (fun e => z (ov1.mp e)), if_neg (fun e => z (ov1.mp e)), if_neg (fun e => z (ov1.mp e)), if_neg (fun e => z (ov2.mp e)), if_neg (fun e => z (ov2.mp e))]
    exact ⟨⟨w1, w2, P.1, P.2, K.1, K.2, by rw [q1]; exact G.1.symm, by rw [q2]; exact G.2.symm⟩, ⟨rfl, rfl⟩, hh, ur01, Or.inr ⟨rfl, rfl⟩, hur, Or.inr ⟨rfl, hD 1 (fun _ => z)⟩⟩
end ZP
section ZP
variable {vrow : Nat → Int32} {vdrawn vtr vled vmov vw1 vw2 : Int32} {vh1 vt1 : Int64} {vp1 vk1 vg1 : Int32} {vh2 vt2 : Int64} {vp2 vk2 vg2 : Int32} {up ur us ut ug uw uh : Nat → Int32} {udrawn udealt uon uturn uled utr : Int32}
theorem zp_lead {t a b c E : Nat} {g inv : Nat → Nat} {k1 k2 : Int64} (ht : t < 4) (hab : a + b = 1) (hE : E ≤ 15) (hc : c < 42) (hr : zr_row vrow ur g inv) (hur : ∀ j, j < 42 → vp_in (ur j) 42) (hp : ∀ j, 12 + 2 * E ≤ j → j < 42 → up (g (zr_s j)) = nI 2) (hpl : ∀ c, c < 42 → ∃ v, v < 6 ∧ up c = nI v) (h3 : ∀ c, c < 42 → ¬ up c = nI 3) (huc : up c = nI a)
    (hk1 : zr_hand (upd up c (nI 3)) 0 k1) (hk2 : zr_hand (upd up c (nI 3)) 1 k2) (g4 : zr_hand up 4 vt1) (g5 : zr_hand up 5 vt2) (hn : zl_nn up a = zl_nn up b) (hn1 : 1 ≤ zl_nn up a) (hn6 : zl_nn up 0 ≤ 6 ∧ zl_nn up 1 ≤ 6) (hn15 : E < 15 → zl_nn up a = 6)
    (hs : vw1 = uw 0 ∧ vw2 = uw 1 ∧ vp1 = us 0 ∧ vp2 = us 1 ∧ vk1 = ut 0 ∧ vk2 = ut 1 ∧ vg1 = ug 0 ∧ vg2 = ug 1) (hh : ∀ j, j < 12 → vp_in (uh j) 42) :
    zr_R vrow (nI (12 + 2 * E)) (nI t) (nI c) (1 - nI a) vw1 vw2 k1 vt1 vp1 vk1 vg1 k2 vt2 vp2 vk2 vg2 (upd up (nI c).toNatClampNeg 3) ur us ut ug uw uh (nI (2 * E)) 1 1 (1 - nI a) (nI c) (nI t) := by
  rw [nI_clamp (show c < 2 ^ 31 by omega), zm_fl hab, show (3 : Int32) = nI 3 from rfl]
  have hb01 : nI b = 0 ∨ nI b = 1 := by
    have : b = 0 ∨ b = 1 := by omega
    rcases this with e | e
    · subst e; exact Or.inl (by decide)
    · subst e; exact Or.inr (by decide)
  have hab2 : (a = 0 ∧ b = 1) ∨ (a = 1 ∧ b = 0) := by omega
  have mA : zl_nn (upd up c (nI 3)) a + 1 = zl_nn up a := zn_out (by omega) (by decide) hc huc (by omega)
  have mB : zl_nn (upd up c (nI 3)) b = zl_nn up b := zn_keep (y := a) (by omega) (by decide) (by omega) hc huc (by omega) (by omega)
  have cn : ∀ v, 4 ≤ v → v < 6 → ¬ up c = nI v := fun v h1 h2 e => by
    rw [huc] at e
    have := (zn_nI (v := v) (w := a) h2 (by omega)).mp e
    omega
  refine ⟨hs, ⟨rfl, rfl⟩, hh, hb01, Or.inr ⟨rfl, rfl⟩, hur, Or.inr ⟨rfl, t, b, a, E, g, inv, ⟨ht, rfl⟩, ⟨by omega, rfl⟩, ⟨hE, rfl, rfl⟩, ⟨hk1, hk2, zh_keep (by decide) (by decide) (by decide) (cn 4 (by decide) (by decide)) g4, zh_keep (by decide) (by decide) (by decide) (cn 5 (by decide) (by decide)) g5⟩, fun d hd => ?_, Or.inr ⟨c, hc, rfl, fun d hd => ?_⟩, hr, fun j h1 h2 => ?_, ?_, fun _ => ⟨Or.inr ⟨zs_nm1 c hc, by omega⟩, by omega, fun h => by have := hn15 h; omega⟩⟩⟩
  · by_cases e : d = c
    · subst e; exact ⟨3, by decide, pk_us⟩
    · rw [pk_un e]; exact hpl d hd
  · by_cases e : d = c
    · subst e; exact ⟨fun _ => rfl, fun _ => pk_us⟩
    · rw [pk_un e]; exact ⟨fun u => absurd u (h3 d hd), fun u => absurd u e⟩
  · have u := hp j h1 h2
    have x : ¬ g (zr_s j) = c := fun e => by
      rw [e, huc] at u
      have := (zn_nI (v := 2) (w := a) (by decide) (by omega)).mp u
      omega
    rw [pk_un x]; exact u
  · rcases hab2 with ⟨e1, e2⟩ | ⟨e1, e2⟩
    · subst e1; subst e2; omega
    · subst e1; subst e2; omega
theorem zp_leg {a c : Nat} (ha : a < 2) (hc : c < 42) (h1 : zr_hand up 0 vh1) (h2 : zr_hand up 1 vh2) (h : j_X2_reasonAgainst vdrawn vtr vled (nI a) vh1 vh2 (nI c) = 0) : up c = nI a := by
  have m := zr_mh ha h1 h2
  unfold j_X2_reasonAgainst at h
  rw [if_neg (zs_nm1 a (by omega))] at h
  by_cases q : j_X2_has (j_X2_moversHand (nI a) vh1 vh2) (nI c) = 0
  · rw [if_pos q] at h; exact absurd h (by decide)
  · have : zs_in (j_X2_moversHand (nI a) vh1 vh2) c = true := by
      cases e : zs_in (j_X2_moversHand (nI a) vh1 vh2) c with
      | true => rfl
      | false => exact absurd ((zs_has (by omega) _).mpr e) q
    rw [m] at this
    simp [zl_p] at this
    exact this.2
theorem zp_play (h : zr_R vrow vdrawn vtr vled vmov vw1 vw2 vh1 vt1 vp1 vk1 vg1 vh2 vt2 vp2 vk2 vg2 up ur us ut ug uw uh udrawn udealt uon uturn uled utr) {x : Int32} (hx : ¬ j_X2_isCard x = 0) (hw : j_X2_reasonAgainst vdrawn vtr vled vmov vh1 vh2 x = 0) :
    zr_R vrow (j_X2_play_vdrawn vdrawn vtr vled vmov x) vtr (j_X2_play_vled vled x) (j_X2_play_vmov vrow vdrawn vtr vled vmov vh1 vh2 x) (j_X2_play_vw1 vrow vdrawn vtr vled vmov vw1 vh1 vp1 vg1 vh2 vp2 vg2 x) (j_X2_play_vw2 vrow vdrawn vtr vled vmov vw2 vh1 vp1 vg1 vh2 vp2 vg2 x) (j_X2_play_vh1 vrow vdrawn vtr vled vmov vh1 x) (j_X2_play_vt1 vtr vled vmov vt1 x) (j_X2_play_vp1 vtr vled vmov vp1 vg1 x) (j_X2_play_vk1 vtr vled vmov vk1 x) (j_X2_play_vg1 vled vg1) (j_X2_play_vh2 vrow vdrawn vtr vled vmov vh2 x) (j_X2_play_vt2 vtr vled vmov vt2 x) (j_X2_play_vp2 vtr vled vmov vp2 vg2 x) (j_X2_play_vk2 vtr vled vmov vk2 x) (j_X2_play_vg2 vled vg2)
      (j_X3_play_uplace up ur udrawn udealt uon uturn uled utr x) ur (j_X3_play_upts up us ug udrawn udealt uon uturn uled utr x) (j_X3_play_utks up ut udrawn udealt uon uturn uled utr x) (j_X3_play_uglv up ug udrawn udealt uon uturn uled utr x) (j_X3_play_uwin up ur us ug uw udrawn udealt uon uturn uled utr x) uh (j_X3_play_udrawn up udrawn udealt uon uturn uled utr x) udealt (j_X3_play_uon up ur udrawn udealt uon uturn uled utr x) (j_X3_play_uturn up udrawn udealt uon uturn uled utr x) (j_X3_play_uled up udrawn udealt uon uturn uled utr x) utr ∧
    j_X2_play vtr vled vmov x = j_X3_play up udrawn udealt uon uturn uled utr x ∧ j_X3_play_uthr up udrawn udealt uon uturn uled utr x = 0 := by
  obtain ⟨c, hc, e⟩ := zr_card hx
  subst e
  have hwy := (zr_why h hc).trans hw
  have hc3 : ¬ j_X3_isCard (nI c) = 0 := hx
  obtain ⟨hs, ⟨el, et⟩, hh, htu, hm, hur, hd⟩ := h
  subst el; subst et
  rcases hm with ⟨_, m1, _⟩ | ⟨m0, m1⟩
  · unfold j_X2_reasonAgainst at hw
    rw [if_pos m1] at hw
    exact absurd hw (by decide)
  · rcases hd with ⟨_, d0, _⟩ | ⟨d0, t, a, b, E, g, inv, ⟨ht, e1⟩, ⟨hab, e2⟩, ⟨hE, e3, e4⟩, ⟨g1, g2, g4, g5⟩, hpl, lo, hr, hp, hn6, hon⟩
    · rw [m0] at d0
      exact absurd d0 (by decide)
    · subst e1; subst e2; subst e3; subst e4; subst d0; subst m0; subst m1
      have ha : a < 2 := by omega
      have huc := zp_leg ha hc g1 g2 hw
      have ho := hon rfl
      have hab2 : (a = 0 ∧ b = 1) ∨ (a = 1 ∧ b = 0) := by omega
      have c00 : nI 0 = 0 := by decide
      have c10 : ¬ nI 1 = 0 := by decide
      simp only [j_X3_play_uplace, j_X3_play_upts, j_X3_play_utks, j_X3_play_uglv, j_X3_play_uwin, j_X3_play_udrawn, j_X3_play_uon, j_X3_play_uturn, j_X3_play_uled, j_X3_play, j_X3_play_uthr, if_neg hc3, if_pos hwy]
      rcases lo with ⟨hl, h3⟩ | ⟨l, hl, ell, h3⟩
      · subst hl
        have ln : (-1 : Int32) < 0 := by decide
        have lr : (-1 : Int32) = (-1) := rfl
        simp only [j_X2_play_vdrawn, j_X2_play_vled, j_X2_play_vmov, j_X2_play_vw1, j_X2_play_vw2, j_X2_play_vh1, j_X2_play_vt1, j_X2_play_vp1, j_X2_play_vk1, j_X2_play_vg1, j_X2_play_vh2, j_X2_play_vt2, j_X2_play_vp2, j_X2_play_vk2, j_X2_play_vg2, j_X2_play, if_pos ln, if_pos lr, ite_self, ite_true]
        refine ⟨?_, by first | trivial | exact ⟨rfl, trivial⟩ | simp⟩
        obtain ⟨hq, hn1, hn15⟩ := ho
        have hn : zl_nn up a = zl_nn up b := by
          rcases hq with q | q
          · exact q.2
          · exact absurd rfl q.1
        rcases hab2 with ⟨a1, a2⟩ | ⟨a1, a2⟩
        · subst a1; subst a2
          rw [if_pos c00, if_pos c00]
          exact zp_lead ht hab hE hc hr hur hp hpl h3 huc (zh_out (by decide) (by decide) (by decide) hc g1) (zh_keep (by decide) (by decide) (by decide) (by rw [huc]; decide) g2) g4 g5 hn hn1 hn6 hn15 hs hh
        · subst a1; subst a2
          rw [if_neg c10, if_neg c10]
          exact zp_lead ht hab hE hc hr hur hp hpl h3 huc (zh_keep (by decide) (by decide) (by decide) (by rw [huc]; decide) g1) (zh_out (by decide) (by decide) (by decide) hc g2) g4 g5 hn hn1 hn6 hn15 hs hh
      · subst ell
        have ln : ¬ nI l < 0 := nI_pos (by omega)
        have lr : ¬ nI l = (-1) := zs_nm1 l hl
        simp only [j_X2_play_vdrawn, j_X2_play_vled, j_X2_play_vmov, j_X2_play_vw1, j_X2_play_vw2, j_X2_play_vh1, j_X2_play_vt1, j_X2_play_vp1, j_X2_play_vk1, j_X2_play_vg1, j_X2_play_vh2, j_X2_play_vt2, j_X2_play_vp2, j_X2_play_vk2, j_X2_play_vg2, j_X2_play, if_neg ln, if_neg lr]
        obtain ⟨hq, hn1, hn15⟩ := ho
        have hn : zl_nn up a = zl_nn up b + 1 := by
          rcases hq with q | q
          · exact absurd q.1 lr
          · exact q.2
        refine ⟨?_, zr_taker ht hl hc, trivial⟩
        rcases hab2 with ⟨a1, a2⟩ | ⟨a1, a2⟩
        · subst a1; subst a2
          simp only [if_pos c00]
          exact zp_fin ht hab hE hl hc hr hur hp hpl h3 huc (fun w h1 h2 => zh_out (by decide) h1 (by omega) hc g1) (fun w h1 h2 => zh_keep (by decide) h1 (by omega) (by rw [huc]; decide) g2) g4 g5 hn hn6.1 hn15 hs hh
        · subst a1; subst a2
          simp only [if_neg c10]
          exact zp_fin ht hab hE hl hc hr hur hp hpl h3 huc (fun w h1 h2 => zh_keep (by decide) h1 (by omega) (by rw [huc]; decide) g1) (fun w h1 h2 => zh_out (by decide) h1 (by omega) hc g2) g4 g5 hn hn6.2 hn15 hs hh
end ZP
def zd_pm (z z' : Nat → Int32) (g inv : Nat → Nat) : Prop := (∀ k, k < 42 → z k = nI (g k) ∧ z' k = nI (g k) ∧ g k < 42 ∧ inv (g k) = k) ∧ (∀ c, c < 42 → inv c < 42 ∧ g (inv c) = c)
theorem zd_fill : ∀ (n i : Nat) (z : Nat → Int32), i + n ≤ 42 → (∀ k, k < i → z k = nI k) → ∀ k, k < i + n → j_X3_deal_7_urow n i z k = nI k
  | 0, i, z, _, h, k, hk => h k (by omega)
  | n + 1, i, z, hi, h, k, hk => by
    rw [j_X3_deal_7_urow, nI_clamp (show i < 2 ^ 31 by omega)]
    refine zd_fill n (i + 1) _ (by omega) (fun j hj => ?_) k (by omega)
    by_cases e : j = i
    · subst e; rw [pk_us]
    · rw [pk_un e]; exact h j (by omega)
theorem zd_two (vrow : Nat → Int32) (x0 : Int64) : ∀ (n i : Nat) (z : Nat → Int32), j_X2_shuffle_vrow_2 vrow x0 n i z = j_X2_shuffle_vrow_27 vrow x0 41 x0 (j_X3_deal_7_urow n i z)
  | 0, _, _ => rfl
  | n + 1, i, z => by
    rw [j_X2_shuffle_vrow_2, j_X3_deal_7_urow]
    exact zd_two vrow x0 n (i + 1) _
theorem zd_k1 {i : Nat} (hi : i + 1 ≤ 41) : (nI (i + 1)).toInt64 + 1 = (nI (i + 1) + 1).toInt64 := by
  rw [nI_l (by omega), lN_1, nI_1, nI_l (by omega)]
theorem zd_swap {z z' : Nat → Int32} {g inv : Nat → Nat} (h : zd_pm z z' g inv) {K O : Nat} (hK : K < 42) (hO : O < 42) : ∃ g' inv', zd_pm (upd (upd z K (z O)) O (z K)) (upd (upd z' K (z' O)) O (z' K)) g' inv' := by
  obtain ⟨h1, h2⟩ := h
  refine ⟨fun k => if k = O then g K else if k = K then g O else g k, fun c => if c = g K then O else if c = g O then K else inv c, fun k hk => ?_, fun c hc => ?_⟩
  · by_cases a : k = O
    · subst a
      refine ⟨?_, ?_, ?_, ?_⟩
      · dsimp only; rw [pk_us, if_pos rfl]; exact (h1 K hK).1
      · dsimp only; rw [pk_us, if_pos rfl]; exact (h1 K hK).2.1
      · show (if k = k then g K else _) < 42
        rw [if_pos rfl]; exact (h1 K hK).2.2.1
      · show (if (if k = k then g K else _) = g K then k else _) = k
        rw [if_pos rfl, if_pos rfl]
    · by_cases b : k = K
      · subst b
        refine ⟨?_, ?_, ?_, ?_⟩
        · dsimp only; rw [pk_un a, pk_us, if_neg a, if_pos rfl]; exact (h1 O hO).1
        · dsimp only; rw [pk_un a, pk_us, if_neg a, if_pos rfl]; exact (h1 O hO).2.1
        · show (if k = O then g k else if k = k then g O else g k) < 42
          rw [if_neg a, if_pos rfl]; exact (h1 O hO).2.2.1
        · have e : (if k = O then g k else if k = k then g O else g k) = g O := by rw [if_neg a, if_pos rfl]
          show (if (if k = O then g k else if k = k then g O else g k) = g k then O else if (if k = O then g k else if k = k then g O else g k) = g O then k else _) = k
          rw [e]
          have n : ¬ g O = g k := fun q => by
            have u := (h1 O hO).2.2.2
            rw [q, (h1 k hK).2.2.2] at u
            exact a u
          rw [if_neg n, if_pos rfl]
      · refine ⟨?_, ?_, ?_, ?_⟩
        · dsimp only; rw [pk_un a, pk_un b, if_neg a, if_neg b]; exact (h1 k hk).1
        · dsimp only; rw [pk_un a, pk_un b, if_neg a, if_neg b]; exact (h1 k hk).2.1
        · show (if k = O then g K else if k = K then g O else g k) < 42
          rw [if_neg a, if_neg b]; exact (h1 k hk).2.2.1
        · have e : (if k = O then g K else if k = K then g O else g k) = g k := by rw [if_neg a, if_neg b]
          show (if (if k = O then g K else if k = K then g O else g k) = g K then O else if (if k = O then g K else if k = K then g O else g k) = g O then K else inv (if k = O then g K else if k = K then g O else g k)) = k
          rw [e]
          have u := (h1 k hk).2.2.2
          have n1 : ¬ g k = g K := fun q => by
            rw [q, (h1 K hK).2.2.2] at u
            exact b u.symm
          have n2 : ¬ g k = g O := fun q => by
            rw [q, (h1 O hO).2.2.2] at u
            exact a u.symm
          rw [if_neg n1, if_neg n2]; exact u
  · by_cases a : c = g K
    · constructor
      · show (if c = g K then O else _) < 42
        rw [if_pos a]; exact hO
      · show (if (if c = g K then O else _) = O then g K else _) = c
        rw [if_pos a, if_pos rfl]; exact a.symm
    · by_cases b : c = g O
      · have e : (if c = g K then O else if c = g O then K else inv c) = K := by rw [if_neg a, if_pos b]
        constructor
        · show (if c = g K then O else if c = g O then K else inv c) < 42
          rw [e]; exact hK
        · show (if (if c = g K then O else if c = g O then K else inv c) = O then g K else if (if c = g K then O else if c = g O then K else inv c) = K then g O else g (if c = g K then O else if c = g O then K else inv c)) = c
          rw [e]
          by_cases q : K = O
          · rw [if_pos q]
            rw [q] at a
            exact absurd b a
          · rw [if_neg q, if_pos rfl]; exact b.symm
      · have e : (if c = g K then O else if c = g O then K else inv c) = inv c := by rw [if_neg a, if_neg b]
        obtain ⟨u, v⟩ := h2 c hc
        constructor
        · show (if c = g K then O else if c = g O then K else inv c) < 42
          rw [e]; exact u
        · show (if (if c = g K then O else if c = g O then K else inv c) = O then g K else if (if c = g K then O else if c = g O then K else inv c) = K then g O else g (if c = g K then O else if c = g O then K else inv c)) = c
          rw [e]
          have n1 : ¬ inv c = O := fun q => b (by rw [← q]; exact v.symm)
          have n2 : ¬ inv c = K := fun q => a (by rw [← q]; exact v.symm)
          rw [if_neg n1, if_neg n2]; exact v
theorem zd_ex (z : Nat → Int32) {k j : Nat} (hk : k < 42) (hj : j < 42) : j_X2_exchange_vrow z (nI k) (nI j) = upd (upd z k (z j)) j (z k) := by
  have n0 : ∀ q : Nat, q < 42 → ¬ nI q < (0 : Int32) := fun q hq => nI_nlt (a := q) (b := 0) (by omega) (by omega)
  have n1 : ∀ q : Nat, q < 42 → ¬ (42 : Int32) ≤ nI q := by decide +kernel
  unfold j_X2_exchange_vrow
  rw [if_neg (n0 k hk), if_neg (n1 k hk), if_neg (n0 j hj), if_neg (n1 j hj), nI_clamp (show k < 2 ^ 31 by omega), nI_clamp (show j < 2 ^ 31 by omega)]
theorem zd_shuf (vrow : Nat → Int32) (x0 : Int64) : ∀ (i : Nat) (y : Int64) (z z' : Nat → Int32) (g inv : Nat → Nat), i ≤ 41 → zd_pm z z' g inv → ∃ g' inv', zd_pm (j_X2_shuffle_vrow_27 vrow x0 i y z) (j_X3_deal_32_urow i y z') g' inv'
  | 0, y, z, z', g, inv, _, h => ⟨g, inv, h⟩
  | i + 1, y, z, z', g, inv, hi, h => by
    rw [j_X2_shuffle_vrow_27, j_X3_deal_32_urow, zd_k1 hi]
    obtain ⟨j, hj, e⟩ := vp_in_of (jx_other (a := (y * 6364136223846793005) + 1442695040888963407) hi) (by decide)
    rw [e, zd_ex z (show i + 1 < 42 by omega) hj, nI_clamp (show i + 1 < 2 ^ 31 by omega), nI_clamp (show j < 2 ^ 31 by omega)]
    obtain ⟨g', inv', h'⟩ := zd_swap h (show i + 1 < 42 by omega) hj
    exact zd_shuf vrow x0 i _ _ _ g' inv' (by omega) h'
theorem zd_all (vrow ur : Nat → Int32) (x0 : Int64) : ∃ g inv, zd_pm (j_X2_shuffle_vrow vrow x0) (j_X3_deal_urow ur x0) g inv := by
  have e : j_X2_shuffle_vrow vrow x0 = j_X2_shuffle_vrow_27 vrow x0 41 x0 (j_X3_deal_7_urow 42 0 vrow) := zd_two vrow x0 42 0 vrow
  rw [e]
  unfold j_X3_deal_urow
  refine zd_shuf vrow x0 41 x0 _ _ (fun k => k) (fun c => c) (Nat.le_refl _) ⟨fun k hk => ⟨zd_fill 42 0 vrow (by decide) (fun j hj => absurd hj (Nat.not_lt_zero j)) k (by omega), zd_fill 42 0 ur (by decide) (fun j hj => absurd hj (Nat.not_lt_zero j)) k (by omega), hk, rfl⟩, fun c hc => ⟨hc, rfl⟩⟩
def zd_hf (g : Nat → Nat) (s : Nat) : Nat → Int64
  | 0 => 0
  | m + 1 => zd_hf g s m ||| (j_X2_bit (nI (g (s + m))))
theorem zd_hin {g inv : Nat → Nat} {s : Nat} (hg : ∀ k, k < 42 → g k < 42 ∧ inv (g k) = k) : ∀ (m : Nat), s + m ≤ 42 → (∀ c, zs_in (zd_hf g s m) c = true ↔ ∃ k, k < m ∧ g (s + k) = c) ∧ zs_ct (zd_hf g s m) = m
  | 0, _ => ⟨fun c => by
      show zs_in 0 c = true ↔ _
      rw [zs_0]
      exact ⟨fun h => absurd h (by decide), fun ⟨k, hk, _⟩ => absurd hk (Nat.not_lt_zero k)⟩, by
      show zs_ct 0 = 0
      exact (zs_ct_nil (h := 0) (fun c _ => zs_0 c)).mpr rfl⟩
  | m + 1, hm => by
    obtain ⟨i1, i2⟩ := zd_hin (s := s) hg m (by omega)
    have gm := hg (s + m) (by omega)
    have nin : zs_in (zd_hf g s m) (g (s + m)) = false := by
      cases e : zs_in (zd_hf g s m) (g (s + m)) with
      | false => rfl
      | true =>
        obtain ⟨k, hk, q⟩ := (i1 _).mp e
        have u := (hg (s + k) (by omega)).2
        rw [q, gm.2] at u
        omega
    refine ⟨fun c => ?_, ?_⟩
    · show zs_in (zd_hf g s m ||| (j_X2_bit (nI (g (s + m))))) c = true ↔ _
      rw [zs_add (by have := gm.1; omega), Bool.or_eq_true, i1, decide_eq_true_eq]
      constructor
      · rintro (⟨k, hk, q⟩ | q)
        · exact ⟨k, by omega, q⟩
        · exact ⟨m, by omega, q.symm⟩
      · rintro ⟨k, hk, q⟩
        rcases Nat.lt_or_ge k m with w | w
        · exact Or.inl ⟨k, w, q⟩
        · have : k = m := by omega
          subst this
          exact Or.inr q.symm
    · show zs_ct (zd_hf g s m ||| (j_X2_bit (nI (g (s + m))))) = m + 1
      rw [zs_ct_add gm.1 nin, i2]
abbrev zd_cl (s i : Nat) : Nat := if i - s < 6 then i - s else 6
theorem zd_hfrom {r : Nat → Int32} {g : Nat → Nat} {s : Nat} (hs : s = 0 ∨ s = 6) (hr : ∀ k, k < 12 → r k = nI (g k)) : ∀ (n i : Nat), i + n = 42 → j_X2_handFrom_5 r (nI s) n i (zd_hf g s (zd_cl s i)) = zd_hf g s 6
  | 0, i, hi => by
    show zd_hf g s (zd_cl s i) = zd_hf g s 6
    have : zd_cl s i = 6 := by unfold zd_cl; rw [if_neg (by omega)]
    rw [this]
  | n + 1, i, hi => by
    have e6 : nI s + 6 = nI (s + 6) := nI_add s 6
    rw [j_X2_handFrom_5, e6, nI_clamp (show i < 2 ^ 31 by omega)]
    have ih := zd_hfrom hs hr n (i + 1) (by omega)
    by_cases a : i < s
    · have a' : nI i < nI s := nI_lt a (by omega)
      rw [if_pos a']
      have : zd_cl s (i + 1) = zd_cl s i := by unfold zd_cl; rw [if_pos (by omega), if_pos (by omega)]; omega
      rw [this] at ih
      exact ih
    · have a' : ¬ nI i < nI s := nI_nlt (by omega) (by omega)
      rw [if_neg a']
      by_cases b : s + 6 ≤ i
      · have b' : nI (s + 6) ≤ nI i := nI_le b (by omega)
        rw [if_pos b']
        have : zd_cl s (i + 1) = zd_cl s i := by unfold zd_cl; rw [if_neg (by omega), if_neg (by omega)]
        rw [this] at ih
        exact ih
      · have b' : ¬ nI (s + 6) ≤ nI i := nI_ge (by omega) (by omega)
        rw [if_neg b', hr i (by omega)]
        have e1 : zd_cl s i = i - s := by unfold zd_cl; rw [if_pos (by omega)]
        have e2 : zd_cl s (i + 1) = (i - s) + 1 := by
          unfold zd_cl
          by_cases q : i + 1 - s < 6
          · rw [if_pos q]; omega
          · rw [if_neg q]; omega
        rw [e2] at ih
        rw [e1]
        have e3 : zd_hf g s ((i - s) + 1) = zd_hf g s (i - s) ||| (j_X2_bit (nI (g i))) := by
          show zd_hf g s (i - s) ||| (j_X2_bit (nI (g (s + (i - s))))) = _
          rw [show s + (i - s) = i by omega]
        rw [e3] at ih
        exact ih
abbrev zd_ph (i : Nat) : Nat := if i < 6 then 0 else if i < 12 then 1 else 2
theorem zd_phq : ∀ i, i < 42 → ((if 6 ≤ nI i then ((if 12 ≤ nI i then 2 else 1) : Int32) else 0) : Int32) = nI (zd_ph i) := by decide +kernel
theorem zd_place {r : Nat → Int32} {g inv : Nat → Nat} (hr : ∀ k, k < 42 → r k = nI (g k) ∧ g k < 42 ∧ inv (g k) = k) : ∀ (n i : Nat) (z : Nat → Int32), i + n ≤ 42 → (∀ k, k < i → z (g k) = nI (zd_ph k)) → ∀ k, k < i + n → j_X3_deal_102_uplace r n i z (g k) = nI (zd_ph k)
  | 0, i, z, _, h, k, hk => h k (by omega)
  | n + 1, i, z, hi, h, k, hk => by
    have ri := hr i (by omega)
    rw [j_X3_deal_102_uplace, nI_clamp (show i < 2 ^ 31 by omega), ri.1, nI_clamp (show g i < 2 ^ 31 by have := ri.2.1; omega), zd_phq i (by omega)]
    refine zd_place hr n (i + 1) _ (by omega) (fun j hj => ?_) k (by omega)
    by_cases e : j = i
    · subst e; rw [pk_us]
    · have ne : ¬ g j = g i := fun q => by
        have u := (hr j (by omega)).2.2
        rw [q, ri.2.2] at u
        exact e u.symm
      rw [pk_un ne]; exact h j (by omega)
theorem zd_last (r : Nat → Int32) : (∀ j, j < 12 → j_X2_putTurnedUpLast_vrow r j = r j) ∧ (∀ j, 12 ≤ j → j < 42 → j_X2_putTurnedUpLast_vrow r j = r (zr_s j)) := by
  have e13 : (13 : Int32).toNatClampNeg = 13 := by decide
  have e12 : (12 : Int32).toNatClampNeg = 12 := by decide
  have e29 : (29 : Int32).toNatClampNeg = 29 := by decide
  have e41 : (41 : Int32).toNatClampNeg = 41 := by decide
  unfold j_X2_putTurnedUpLast_vrow
  rw [e13, e12, e29, e41]
  constructor
  · intro j hj
    rw [pk_un (by omega), pk_cpy_out (Or.inl hj)]
  · intro j h1 h2
    unfold zr_s
    by_cases q : j = 41
    · subst q; rw [pk_us, if_neg (by decide)]
    · rw [pk_un q, pk_cpy_in h1 (by omega), if_pos (by omega)]
      congr 1
      omega
section ZP
variable {vrow : Nat → Int32} {vdrawn vtr vled vmov vw1 vw2 : Int32} {vh1 vt1 : Int64} {vp1 vk1 vg1 : Int32} {vh2 vt2 : Int64} {vp2 vk2 vg2 : Int32} {up ur us ut ug uw uh : Nat → Int32} {udrawn udealt uon uturn uled utr : Int32}
theorem zp_deal (h : zr_R vrow vdrawn vtr vled vmov vw1 vw2 vh1 vt1 vp1 vk1 vg1 vh2 vt2 vp2 vk2 vg2 up ur us ut ug uw uh udrawn udealt uon uturn uled utr) (x0 : Int64) :
    zr_R (j_X2_deal_vrow vrow x0) (j_X2_deal_vdrawn) (j_X2_deal_vtr vrow x0) (j_X2_deal_vled) (j_X2_deal_vmov) vw1 vw2 (j_X2_deal_vh1 vrow x0) (j_X2_deal_vt1) (j_X2_deal_vp1) (j_X2_deal_vk1) (j_X2_deal_vg1) (j_X2_deal_vh2 vrow x0) (j_X2_deal_vt2) (j_X2_deal_vp2) (j_X2_deal_vk2) (j_X2_deal_vg2)
      (j_X3_deal_uplace up ur x0) (j_X3_deal_urow ur x0) (j_X3_deal_upts us) (j_X3_deal_utks ut) (j_X3_deal_uglv ug) uw uh j_X3_deal_udrawn j_X3_deal_udealt j_X3_deal_uon j_X3_deal_uturn j_X3_deal_uled (j_X3_deal_utr ur x0) ∧
    j_X2_deal vrow x0 = j_X3_deal ur x0 := by
  obtain ⟨⟨w1, w2, _⟩, _, hh, _⟩ := h
  obtain ⟨g, inv, hA, hB⟩ := zd_all vrow ur x0
  have hg : ∀ k, k < 42 → g k < 42 ∧ inv (g k) = k := fun k hk => (hA k hk).2.2
  have hrU : ∀ k, k < 42 → j_X3_deal_urow ur x0 k = nI (g k) ∧ g k < 42 ∧ inv (g k) = k := fun k hk => ⟨(hA k hk).2.1, (hA k hk).2.2.1, (hA k hk).2.2.2⟩
  obtain ⟨l1, l2⟩ := zd_last (j_X2_shuffle_vrow vrow x0)
  have e12 : (12 : Int32).toNatClampNeg = 12 := by decide
  have g12 := hg 12 (by decide)
  -- trumps
  obtain ⟨t, ht, tv, tu⟩ : ∃ t, t < 4 ∧ j_X2_deal_vtr vrow x0 = nI t ∧ j_X3_deal_utr ur x0 = nI t := by
    have eU : j_X3_deal_utr ur x0 = (if j_X3_isMildew (j_X3_deal_urow ur x0 12) = 0 then j_X3_provenance (j_X3_deal_urow ur x0 12) else 0) := rfl
    unfold j_X2_deal_vtr
    rw [eU, e12, (hA 12 (by decide)).1, (hA 12 (by decide)).2.1]
    by_cases q : g 12 < 40
    · refine ⟨g 12 / 10, by omega, ?_, ?_⟩
      · rw [if_pos ((zs_mil _ g12.1).mpr q), zs_div _ g12.1]
      · rw [if_pos ((zm_mil3 _ g12.1).mpr q), zm_prov _ g12.1]
    · refine ⟨0, by decide, ?_, ?_⟩
      · rw [if_neg (fun e => q ((zs_mil _ g12.1).mp e))]; rfl
      · rw [if_neg (fun e => q ((zm_mil3 _ g12.1).mp e))]; rfl
  have pl := zd_place (r := j_X3_deal_urow ur x0) hrU 42 0 up (by decide) (fun k hk => absurd hk (Nat.not_lt_zero k))
  have plc : ∀ k, k < 42 → j_X3_deal_uplace up ur x0 (g k) = nI (zd_ph k) := fun k hk => pl k (by omega)
  have phlt : ∀ k, zd_ph k < 3 := fun k => by unfold zd_ph; split <;> (try split) <;> omega
  have plI : ∀ c, c < 42 → j_X3_deal_uplace up ur x0 c = nI (zd_ph (inv c)) := fun c hc => by
    have b := hB c hc
    have := plc (inv c) b.1
    rw [b.2] at this
    exact this
  -- hands
  have hand : ∀ s a, (s = 0 ∧ a = 0) ∨ (s = 6 ∧ a = 1) → j_X2_handFrom (j_X2_putTurnedUpLast_vrow (j_X2_shuffle_vrow vrow x0)) (nI s) = zd_hf g s 6 ∧ zr_hand (j_X3_deal_uplace up ur x0) a (zd_hf g s 6) ∧ zs_ct (zd_hf g s 6) = 6 := by
    intro s a hsa
    have hs : s = 0 ∨ s = 6 := by omega
    obtain ⟨i1, i2⟩ := zd_hin (s := s) hg 6 (by omega)
    refine ⟨?_, fun c => ?_, i2⟩
    · have := zd_hfrom (r := j_X2_putTurnedUpLast_vrow (j_X2_shuffle_vrow vrow x0)) (g := g) hs (fun k hk => by rw [l1 k hk]; exact (hA k (by omega)).1) 42 0 (by decide)
      have z : zd_cl s 0 = 0 := by unfold zd_cl; rw [if_pos (by omega)]; omega
      rw [z] at this
      exact this
    · rw [Bool.eq_iff_iff, i1, Bool.and_eq_true, decide_eq_true_eq]
      constructor
      · rintro ⟨k, hk, q⟩
        have gk := hg (s + k) (by omega)
        refine ⟨by rw [← q]; exact gk.1, ?_⟩
        have u := plc (s + k) (by omega)
        rw [q] at u
        have : zd_ph (s + k) = a := by
          unfold zd_ph
          rcases hsa with ⟨x1, x2⟩ | ⟨x1, x2⟩
          · rw [if_pos (by omega)]; exact x2.symm
          · rw [if_neg (by omega), if_pos (by omega)]; exact x2.symm
        simp [zl_p, u, this]
      · rintro ⟨hc, p⟩
        have b := hB c hc
        have u : j_X3_deal_uplace up ur x0 c = nI a := by simpa [zl_p] using p
        rw [plI c hc] at u
        have e := (zn_nI (v := a) (w := zd_ph (inv c)) (by omega) (by have := phlt (inv c); omega)).mp u
        have inr : s ≤ inv c ∧ inv c < s + 6 := by
          unfold zd_ph at e
          split at e
          · omega
          · split at e <;> omega
        exact ⟨inv c - s, by omega, by rw [show s + (inv c - s) = inv c by omega]; exact b.2⟩
  obtain ⟨a1, a2, a3⟩ := hand 0 0 (Or.inl ⟨rfl, rfl⟩)
  obtain ⟨b1, b2, b3⟩ := hand 6 1 (Or.inr ⟨rfl, rfl⟩)
  have vh1e : j_X2_deal_vh1 vrow x0 = zd_hf g 0 6 := by
    unfold j_X2_deal_vh1 j_X0_begin_vh
    rw [show (0 : Int32) = nI 0 from rfl]
    exact a1
  have vh2e : j_X2_deal_vh2 vrow x0 = zd_hf g 6 6 := by
    unfold j_X2_deal_vh2 j_X0_begin_vh
    rw [show (6 : Int32) = nI 6 from rfl]
    exact b1
  have n0 : zl_nn (j_X3_deal_uplace up ur x0) 0 = 6 := by rw [← zl_hct _ a2]; exact a3
  have n1 : zl_nn (j_X3_deal_uplace up ur x0) 1 = 6 := by rw [← zl_hct _ b2]; exact b3
  have nil : ∀ v, 3 ≤ v → v < 6 → zr_hand (j_X3_deal_uplace up ur x0) v 0 := by
    intro v h1 h2 c
    rw [zs_0]
    by_cases hc : c < 42
    · have : ¬ j_X3_deal_uplace up ur x0 c = nI v := by
        rw [plI c hc]
        intro e
        have := (zn_nI (v := v) (w := zd_ph (inv c)) h2 (by have := phlt (inv c); omega)).mp e
        have := phlt (inv c)
        omega
      simp [zl_p, this]
    · simp [hc]
  constructor
  · rw [tv, tu, vh1e, vh2e]
    refine ⟨⟨w1, w2, ?_, ?_, ?_, ?_, ?_, ?_⟩, ⟨rfl, rfl⟩, hh, Or.inl rfl, Or.inr ⟨rfl, rfl⟩, fun j hj => by rw [(hrU j hj).1]; exact vp_in_nI (hrU j hj).2.1 (by decide), Or.inr ⟨rfl, t, 0, 1, 0, g, inv, ⟨ht, rfl⟩, ⟨rfl, rfl⟩, ⟨by decide, rfl, rfl⟩, ⟨a2, b2, nil 4 (by decide) (by decide), nil 5 (by decide) (by decide)⟩, fun c hc => ⟨zd_ph (inv c), by have := phlt (inv c); omega, plI c hc⟩, Or.inl ⟨rfl, fun c hc e => ?_⟩, ⟨hrU, fun j h1 h2 => ?_⟩, fun j h1 h2 => ?_, ⟨by omega, by omega⟩, fun _ => ⟨Or.inl ⟨rfl, by omega⟩, by omega, fun _ => n0⟩⟩⟩
    · unfold j_X3_deal_upts; rw [zr_c0, zr_c1, pk_un (by decide), pk_us]; rfl
    · unfold j_X3_deal_upts; rw [zr_c0, zr_c1, pk_us]; rfl
    · unfold j_X3_deal_utks; rw [zr_c0, zr_c1, pk_un (by decide), pk_us]; rfl
    · unfold j_X3_deal_utks; rw [zr_c0, zr_c1, pk_us]; rfl
    · unfold j_X3_deal_uglv; rw [zr_c0, zr_c1, pk_un (by decide), pk_us]; rfl
    · unfold j_X3_deal_uglv; rw [zr_c0, zr_c1, pk_us]; rfl
    · rw [plI c hc] at e
      have := (zn_nI (v := 3) (w := zd_ph (inv c)) (by decide) (by have := phlt (inv c); omega)).mp e
      have := phlt (inv c)
      omega
    · show j_X2_putTurnedUpLast_vrow (j_X2_shuffle_vrow vrow x0) j = _
      rw [l2 j h1 h2, (hA _ (zr_s42 h2)).1, (hA _ (zr_s42 h2)).2.1]
    · rw [plc _ (zr_s42 h2)]
      have : zd_ph (zr_s j) = 2 := by
        by_cases q : j < 41
        · rw [show zr_s j = j + 1 from if_pos q]
          unfold zd_ph
          rw [if_neg (by omega), if_neg (by omega)]
        · rw [show zr_s j = 12 from if_neg q]; rfl
      rw [this]
  · have x1 : j_X2_deal vrow x0 = j_X2_deal_vtr vrow x0 := rfl
    have x2 : j_X3_deal ur x0 = j_X3_deal_utr ur x0 := rfl
    rw [x1, x2, tv, tu]
end ZP
