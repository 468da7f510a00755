/-! THE MODEL: its face (laid by wip/whole/rows.py) -/
abbrev rX3_of_S : Room := { frames := 1, cells := 0, slots := 0, locals := 20 }
def j_X3_of_S (upts : Nat → Int32) (x1 : Int32) : Int32 := (if j_X3_isArchivist x1 = 0 then 0 else upts (x1).toNatClampNeg)
def j_X3_of_S_uthr (x1 : Int32) : Int32 := (if j_X3_isArchivist x1 = 0 then 1 else 0)
theorem inX3_of_S_X3 : ∀ w ∈ u_ws RX3 TX3 15, w ∈ wsX3_of := by decide +kernel
set_option maxRecDepth 100000 in
set_option maxHeartbeats 8000000 in
theorem c_X3_of_S {l : Launch} {D : va_G} (b0 : Nat) (bP : Nat) (bR : Nat) (bS : Nat) (bT : Nat) (bG : Nat) (bW : Nat) (bH : Nat) (bO : Nat) (cP : ClassId) (cR : ClassId) (cS : ClassId) (cT : ClassId) (cG : ClassId) (cW : ClassId) (cH : ClassId) (cO : ClassId) (uplace : Nat → Int32) (urow : Nat → Int32) (upts : Nat → Int32) (utks : Nat → Int32) (uglv : Nat → Int32) (uwin : Nat → Int32) (uheld : Nat → Int32) (utab : Nat → Int32) (udrawn : Int32) (udealt : Int32) (uon : Int32) (uturn : Int32) (uled : Int32) (utr : Int32) (uthr : Int32) (x1 : Int32) : jWi l yX3_of wsX3_of rX3_of_S D [.ref b0, .ref bS, .int x1] (jM b0 bP bR bS bT bG bW bH bO cP cR cS cT cG cW cH cO uplace urow upts utks uglv uwin uheld utab udrawn udealt uon uturn uled utr uthr) [(cP, .int), (cR, .int), (cS, .int), (cT, .int), (cG, .int), (cW, .int), (cH, .int), (cO, .int)] (j_X3_of_S upts x1) (jM b0 bP bR bS bT bG bW bH bO cP cR cS cT cG cW cH cO uplace urow upts utks uglv uwin uheld utab udrawn udealt uon uturn uled utr (j_X3_of_S_uthr x1)) := by
  refine jW_of (QQ := fun A => (jQi D (j_X3_of_S upts x1) (jM b0 bP bR bS bT bG bW bH bO cP cR cS cT cG cW cH cO uplace urow upts utks uglv uwin uheld utab udrawn udealt uon uturn uled utr (j_X3_of_S_uthr x1)) [(cP, .int), (cR, .int), (cS, .int), (cT, .int), (cG, .int), (cW, .int), (cH, .int), (cO, .int)] A)) (cc := cX3_of) (maxL := 3) (ret := (some .int)) (by decide) rfl (Nat.le_of_ble_eq_true rfl) ?_
  intro p e s m below meth c ls A S hr hlocks hini hP hK hN hD hS hA hl
  obtain ⟨hx, hb, hml, hown, hts⟩ := id S
  have hl : lv_has ls 3 [(0, .ref b0), (1, .ref bS), (2, .int x1)] := hl
  refine lv_aload_n hx hb dX3_of_0 rfl (lv_at hl 0 rfl) ?_
  refine lv_iload_n hx hb dX3_of_1 rfl (lv_at hl 2 rfl) ?_
  refine jr_callS (n := 1) (As := [.int x1]) (rest := [.ref b0]) S (c_X3_isArchivist x1) gX3_of_X3_isArchivist rfl (by decide +kernel) rfl ⟨⟨rfl, rfl⟩, ⟨Nat.le_of_ble_eq_true rfl, Nat.le_of_ble_eq_true rfl⟩, Nat.le_of_ble_eq_true rfl, Nat.le_of_ble_eq_true rfl⟩ hP hK hN [] [] rfl rfl (lv_nil hl) rfl (Nat.le_of_ble_eq_true rfl) dX3_of_2 ?_
  refine lv_if_eq (tgt := 12) hx hb dX3_of_5 (by decide) (fun c_1 => ?_) (fun c_1 => ?_)
  · skip
    refine lv_iconst (v := 1) hx hb dX3_of_12 (by decide) ?_
    refine va_put (D := D) (ci := 3) (v := .int 1) (ty := .int) (C := RX3) (T := TX3) (N := 15) hx hb hts inX3_of_S_X3 tyX3 tyX3_ok nmX3 hown hK hP hD hS 0 rfl rfl 12 (by decide) (hts (.fieldLink RX3 41 "ArchivistTricksModel" "thrown" "I") (by decide +kernel)) (fun _ h9 => h9) rfl (by decide +kernel) rfl rfl (Nat.le_of_ble_eq_true rfl) dX3_of_13 (fun H locs hP hD hS => ?_)
    have hP : va_P D vwCl [(b0, .inr (3, [.ref bP, .ref bR, .int udrawn, .int udealt, .int uon, .int uturn, .int uled, .int utr, .ref bS, .ref bT, .ref bG, .ref bW, .int 1, .ref bH, .ref bO])), (bP, .inl (cP, 42, .inl uplace)), (bR, .inl (cR, 42, .inl urow)), (bS, .inl (cS, 2, .inl upts)), (bT, .inl (cT, 2, .inl utks)), (bG, .inl (cG, 2, .inl uglv)), (bW, .inl (cW, 2, .inl uwin)), (bH, .inl (cH, 12, .inl uheld)), (bO, .inl (cO, 8192, .inl utab))] H := hP
    have hD : va_D A [(b0, .inr (3, [.ref bP, .ref bR, .int udrawn, .int udealt, .int uon, .int uturn, .int uled, .int utr, .ref bS, .ref bT, .ref bG, .ref bW, .int 1, .ref bH, .ref bO])), (bP, .inl (cP, 42, .inl uplace)), (bR, .inl (cR, 42, .inl urow)), (bS, .inl (cS, 2, .inl upts)), (bT, .inl (cT, 2, .inl utks)), (bG, .inl (cG, 2, .inl uglv)), (bW, .inl (cW, 2, .inl uwin)), (bH, .inl (cH, 12, .inl uheld)), (bO, .inl (cO, 8192, .inl utab))] := hD
    refine lv_aload_n hx hb dX3_of_16 rfl (lv_at hl 0 rfl) ?_
    refine va_get (D := D) (ci := 3) (v := .int 1) (C := RX3) (T := TX3) (N := 15) hx hb hts inX3_of_S_X3 hown hK hP 0 rfl rfl 12 (by decide) (hts (.fieldLink RX3 41 "ArchivistTricksModel" "thrown" "I") (by decide +kernel)) (fun _ h9 => h9) rfl dX3_of_17 ?_
    refine lv_if_ne (tgt := 29) hx hb dX3_of_20 (by decide) (fun _ => ?_) (fun c_ => absurd c_ (by decide))
    refine lv_iconst (v := 0) hx hb dX3_of_29 (by decide) ?_
    exact jw_iret hx hb hr hlocks hK hP hD hS dX3_of_30 (by  simp only [j_X3_of_S, if_pos c_1]) (by  simp only [j_X3_of_S_uthr, if_pos c_1])
  · skip
    refine lv_iconst (v := 0) hx hb dX3_of_8 (by decide) ?_
    refine lv_goto (tgt := 13) hx hb dX3_of_9 (by decide) ?_
    refine va_put (D := D) (ci := 3) (v := .int 0) (ty := .int) (C := RX3) (T := TX3) (N := 15) hx hb hts inX3_of_S_X3 tyX3 tyX3_ok nmX3 hown hK hP hD hS 0 rfl rfl 12 (by decide) (hts (.fieldLink RX3 41 "ArchivistTricksModel" "thrown" "I") (by decide +kernel)) (fun _ h9 => h9) rfl (by decide +kernel) rfl rfl (Nat.le_of_ble_eq_true rfl) dX3_of_13 (fun H locs hP hD hS => ?_)
    have hP : va_P D vwCl [(b0, .inr (3, [.ref bP, .ref bR, .int udrawn, .int udealt, .int uon, .int uturn, .int uled, .int utr, .ref bS, .ref bT, .ref bG, .ref bW, .int 0, .ref bH, .ref bO])), (bP, .inl (cP, 42, .inl uplace)), (bR, .inl (cR, 42, .inl urow)), (bS, .inl (cS, 2, .inl upts)), (bT, .inl (cT, 2, .inl utks)), (bG, .inl (cG, 2, .inl uglv)), (bW, .inl (cW, 2, .inl uwin)), (bH, .inl (cH, 12, .inl uheld)), (bO, .inl (cO, 8192, .inl utab))] H := hP
    have hD : va_D A [(b0, .inr (3, [.ref bP, .ref bR, .int udrawn, .int udealt, .int uon, .int uturn, .int uled, .int utr, .ref bS, .ref bT, .ref bG, .ref bW, .int 0, .ref bH, .ref bO])), (bP, .inl (cP, 42, .inl uplace)), (bR, .inl (cR, 42, .inl urow)), (bS, .inl (cS, 2, .inl upts)), (bT, .inl (cT, 2, .inl utks)), (bG, .inl (cG, 2, .inl uglv)), (bW, .inl (cW, 2, .inl uwin)), (bH, .inl (cH, 12, .inl uheld)), (bO, .inl (cO, 8192, .inl utab))] := hD
    refine lv_aload_n hx hb dX3_of_16 rfl (lv_at hl 0 rfl) ?_
    refine va_get (D := D) (ci := 3) (v := .int 0) (C := RX3) (T := TX3) (N := 15) hx hb hts inX3_of_S_X3 hown hK hP 0 rfl rfl 12 (by decide) (hts (.fieldLink RX3 41 "ArchivistTricksModel" "thrown" "I") (by decide +kernel)) (fun _ h9 => h9) rfl dX3_of_17 ?_
    refine lv_if_ne (tgt := 29) hx hb dX3_of_20 (by decide) (fun c_ => absurd (by decide) c_) (fun _ => ?_)
    refine lv_aload_n hx hb dX3_of_23 rfl (lv_at hl 1 rfl) ?_
    refine lv_iload_n hx hb dX3_of_24 rfl (lv_at hl 2 rfl) ?_
    refine va_iald hx hb hK hP 3 2 rfl rfl (i := x1) (jx_arch c_1) dX3_of_25 ?_
    refine lv_goto (tgt := 30) hx hb dX3_of_26 (by decide) ?_
    exact jw_iret hx hb hr hlocks hK hP hD hS dX3_of_30 (by  simp only [j_X3_of_S, if_neg c_1]) (by  simp only [j_X3_of_S_uthr, if_neg c_1])

abbrev rX3_of_T : Room := { frames := 1, cells := 0, slots := 0, locals := 20 }
def j_X3_of_T (utks : Nat → Int32) (x1 : Int32) : Int32 := (if j_X3_isArchivist x1 = 0 then 0 else utks (x1).toNatClampNeg)
def j_X3_of_T_uthr (x1 : Int32) : Int32 := (if j_X3_isArchivist x1 = 0 then 1 else 0)
theorem inX3_of_T_X3 : ∀ w ∈ u_ws RX3 TX3 15, w ∈ wsX3_of := by decide +kernel
set_option maxRecDepth 100000 in
set_option maxHeartbeats 8000000 in
theorem c_X3_of_T {l : Launch} {D : va_G} (b0 : Nat) (bP : Nat) (bR : Nat) (bS : Nat) (bT : Nat) (bG : Nat) (bW : Nat) (bH : Nat) (bO : Nat) (cP : ClassId) (cR : ClassId) (cS : ClassId) (cT : ClassId) (cG : ClassId) (cW : ClassId) (cH : ClassId) (cO : ClassId) (uplace : Nat → Int32) (urow : Nat → Int32) (upts : Nat → Int32) (utks : Nat → Int32) (uglv : Nat → Int32) (uwin : Nat → Int32) (uheld : Nat → Int32) (utab : Nat → Int32) (udrawn : Int32) (udealt : Int32) (uon : Int32) (uturn : Int32) (uled : Int32) (utr : Int32) (uthr : Int32) (x1 : Int32) : jWi l yX3_of wsX3_of rX3_of_T D [.ref b0, .ref bT, .int x1] (jM b0 bP bR bS bT bG bW bH bO cP cR cS cT cG cW cH cO uplace urow upts utks uglv uwin uheld utab udrawn udealt uon uturn uled utr uthr) [(cP, .int), (cR, .int), (cS, .int), (cT, .int), (cG, .int), (cW, .int), (cH, .int), (cO, .int)] (j_X3_of_T utks x1) (jM b0 bP bR bS bT bG bW bH bO cP cR cS cT cG cW cH cO uplace urow upts utks uglv uwin uheld utab udrawn udealt uon uturn uled utr (j_X3_of_T_uthr x1)) := by
  refine jW_of (QQ := fun A => (jQi D (j_X3_of_T utks x1) (jM b0 bP bR bS bT bG bW bH bO cP cR cS cT cG cW cH cO uplace urow upts utks uglv uwin uheld utab udrawn udealt uon uturn uled utr (j_X3_of_T_uthr x1)) [(cP, .int), (cR, .int), (cS, .int), (cT, .int), (cG, .int), (cW, .int), (cH, .int), (cO, .int)] A)) (cc := cX3_of) (maxL := 3) (ret := (some .int)) (by decide) rfl (Nat.le_of_ble_eq_true rfl) ?_
  intro p e s m below meth c ls A S hr hlocks hini hP hK hN hD hS hA hl
  obtain ⟨hx, hb, hml, hown, hts⟩ := id S
  have hl : lv_has ls 3 [(0, .ref b0), (1, .ref bT), (2, .int x1)] := hl
  refine lv_aload_n hx hb dX3_of_0 rfl (lv_at hl 0 rfl) ?_
  refine lv_iload_n hx hb dX3_of_1 rfl (lv_at hl 2 rfl) ?_
  refine jr_callS (n := 1) (As := [.int x1]) (rest := [.ref b0]) S (c_X3_isArchivist x1) gX3_of_X3_isArchivist rfl (by decide +kernel) rfl ⟨⟨rfl, rfl⟩, ⟨Nat.le_of_ble_eq_true rfl, Nat.le_of_ble_eq_true rfl⟩, Nat.le_of_ble_eq_true rfl, Nat.le_of_ble_eq_true rfl⟩ hP hK hN [] [] rfl rfl (lv_nil hl) rfl (Nat.le_of_ble_eq_true rfl) dX3_of_2 ?_
  refine lv_if_eq (tgt := 12) hx hb dX3_of_5 (by decide) (fun c_1 => ?_) (fun c_1 => ?_)
  · skip
    refine lv_iconst (v := 1) hx hb dX3_of_12 (by decide) ?_
    refine va_put (D := D) (ci := 3) (v := .int 1) (ty := .int) (C := RX3) (T := TX3) (N := 15) hx hb hts inX3_of_T_X3 tyX3 tyX3_ok nmX3 hown hK hP hD hS 0 rfl rfl 12 (by decide) (hts (.fieldLink RX3 41 "ArchivistTricksModel" "thrown" "I") (by decide +kernel)) (fun _ h9 => h9) rfl (by decide +kernel) rfl rfl (Nat.le_of_ble_eq_true rfl) dX3_of_13 (fun H locs hP hD hS => ?_)
    have hP : va_P D vwCl [(b0, .inr (3, [.ref bP, .ref bR, .int udrawn, .int udealt, .int uon, .int uturn, .int uled, .int utr, .ref bS, .ref bT, .ref bG, .ref bW, .int 1, .ref bH, .ref bO])), (bP, .inl (cP, 42, .inl uplace)), (bR, .inl (cR, 42, .inl urow)), (bS, .inl (cS, 2, .inl upts)), (bT, .inl (cT, 2, .inl utks)), (bG, .inl (cG, 2, .inl uglv)), (bW, .inl (cW, 2, .inl uwin)), (bH, .inl (cH, 12, .inl uheld)), (bO, .inl (cO, 8192, .inl utab))] H := hP
    have hD : va_D A [(b0, .inr (3, [.ref bP, .ref bR, .int udrawn, .int udealt, .int uon, .int uturn, .int uled, .int utr, .ref bS, .ref bT, .ref bG, .ref bW, .int 1, .ref bH, .ref bO])), (bP, .inl (cP, 42, .inl uplace)), (bR, .inl (cR, 42, .inl urow)), (bS, .inl (cS, 2, .inl upts)), (bT, .inl (cT, 2, .inl utks)), (bG, .inl (cG, 2, .inl uglv)), (bW, .inl (cW, 2, .inl uwin)), (bH, .inl (cH, 12, .inl uheld)), (bO, .inl (cO, 8192, .inl utab))] := hD
    refine lv_aload_n hx hb dX3_of_16 rfl (lv_at hl 0 rfl) ?_
    refine va_get (D := D) (ci := 3) (v := .int 1) (C := RX3) (T := TX3) (N := 15) hx hb hts inX3_of_T_X3 hown hK hP 0 rfl rfl 12 (by decide) (hts (.fieldLink RX3 41 "ArchivistTricksModel" "thrown" "I") (by decide +kernel)) (fun _ h9 => h9) rfl dX3_of_17 ?_
    refine lv_if_ne (tgt := 29) hx hb dX3_of_20 (by decide) (fun _ => ?_) (fun c_ => absurd c_ (by decide))
    refine lv_iconst (v := 0) hx hb dX3_of_29 (by decide) ?_
    exact jw_iret hx hb hr hlocks hK hP hD hS dX3_of_30 (by  simp only [j_X3_of_T, if_pos c_1]) (by  simp only [j_X3_of_T_uthr, if_pos c_1])
  · skip
    refine lv_iconst (v := 0) hx hb dX3_of_8 (by decide) ?_
    refine lv_goto (tgt := 13) hx hb dX3_of_9 (by decide) ?_
    refine va_put (D := D) (ci := 3) (v := .int 0) (ty := .int) (C := RX3) (T := TX3) (N := 15) hx hb hts inX3_of_T_X3 tyX3 tyX3_ok nmX3 hown hK hP hD hS 0 rfl rfl 12 (by decide) (hts (.fieldLink RX3 41 "ArchivistTricksModel" "thrown" "I") (by decide +kernel)) (fun _ h9 => h9) rfl (by decide +kernel) rfl rfl (Nat.le_of_ble_eq_true rfl) dX3_of_13 (fun H locs hP hD hS => ?_)
    have hP : va_P D vwCl [(b0, .inr (3, [.ref bP, .ref bR, .int udrawn, .int udealt, .int uon, .int uturn, .int uled, .int utr, .ref bS, .ref bT, .ref bG, .ref bW, .int 0, .ref bH, .ref bO])), (bP, .inl (cP, 42, .inl uplace)), (bR, .inl (cR, 42, .inl urow)), (bS, .inl (cS, 2, .inl upts)), (bT, .inl (cT, 2, .inl utks)), (bG, .inl (cG, 2, .inl uglv)), (bW, .inl (cW, 2, .inl uwin)), (bH, .inl (cH, 12, .inl uheld)), (bO, .inl (cO, 8192, .inl utab))] H := hP
    have hD : va_D A [(b0, .inr (3, [.ref bP, .ref bR, .int udrawn, .int udealt, .int uon, .int uturn, .int uled, .int utr, .ref bS, .ref bT, .ref bG, .ref bW, .int 0, .ref bH, .ref bO])), (bP, .inl (cP, 42, .inl uplace)), (bR, .inl (cR, 42, .inl urow)), (bS, .inl (cS, 2, .inl upts)), (bT, .inl (cT, 2, .inl utks)), (bG, .inl (cG, 2, .inl uglv)), (bW, .inl (cW, 2, .inl uwin)), (bH, .inl (cH, 12, .inl uheld)), (bO, .inl (cO, 8192, .inl utab))] := hD
    refine lv_aload_n hx hb dX3_of_16 rfl (lv_at hl 0 rfl) ?_
    refine va_get (D := D) (ci := 3) (v := .int 0) (C := RX3) (T := TX3) (N := 15) hx hb hts inX3_of_T_X3 hown hK hP 0 rfl rfl 12 (by decide) (hts (.fieldLink RX3 41 "ArchivistTricksModel" "thrown" "I") (by decide +kernel)) (fun _ h9 => h9) rfl dX3_of_17 ?_
    refine lv_if_ne (tgt := 29) hx hb dX3_of_20 (by decide) (fun c_ => absurd (by decide) c_) (fun _ => ?_)
    refine lv_aload_n hx hb dX3_of_23 rfl (lv_at hl 1 rfl) ?_
    refine lv_iload_n hx hb dX3_of_24 rfl (lv_at hl 2 rfl) ?_
    refine va_iald hx hb hK hP 4 3 rfl rfl (i := x1) (jx_arch c_1) dX3_of_25 ?_
    refine lv_goto (tgt := 30) hx hb dX3_of_26 (by decide) ?_
    exact jw_iret hx hb hr hlocks hK hP hD hS dX3_of_30 (by  simp only [j_X3_of_T, if_neg c_1]) (by  simp only [j_X3_of_T_uthr, if_neg c_1])

abbrev rX3_of_G : Room := { frames := 1, cells := 0, slots := 0, locals := 20 }
def j_X3_of_G (uglv : Nat → Int32) (x1 : Int32) : Int32 := (if j_X3_isArchivist x1 = 0 then 0 else uglv (x1).toNatClampNeg)
def j_X3_of_G_uthr (x1 : Int32) : Int32 := (if j_X3_isArchivist x1 = 0 then 1 else 0)
theorem inX3_of_G_X3 : ∀ w ∈ u_ws RX3 TX3 15, w ∈ wsX3_of := by decide +kernel
set_option maxRecDepth 100000 in
set_option maxHeartbeats 8000000 in
theorem c_X3_of_G {l : Launch} {D : va_G} (b0 : Nat) (bP : Nat) (bR : Nat) (bS : Nat) (bT : Nat) (bG : Nat) (bW : Nat) (bH : Nat) (bO : Nat) (cP : ClassId) (cR : ClassId) (cS : ClassId) (cT : ClassId) (cG : ClassId) (cW : ClassId) (cH : ClassId) (cO : ClassId) (uplace : Nat → Int32) (urow : Nat → Int32) (upts : Nat → Int32) (utks : Nat → Int32) (uglv : Nat → Int32) (uwin : Nat → Int32) (uheld : Nat → Int32) (utab : Nat → Int32) (udrawn : Int32) (udealt : Int32) (uon : Int32) (uturn : Int32) (uled : Int32) (utr : Int32) (uthr : Int32) (x1 : Int32) : jWi l yX3_of wsX3_of rX3_of_G D [.ref b0, .ref bG, .int x1] (jM b0 bP bR bS bT bG bW bH bO cP cR cS cT cG cW cH cO uplace urow upts utks uglv uwin uheld utab udrawn udealt uon uturn uled utr uthr) [(cP, .int), (cR, .int), (cS, .int), (cT, .int), (cG, .int), (cW, .int), (cH, .int), (cO, .int)] (j_X3_of_G uglv x1) (jM b0 bP bR bS bT bG bW bH bO cP cR cS cT cG cW cH cO uplace urow upts utks uglv uwin uheld utab udrawn udealt uon uturn uled utr (j_X3_of_G_uthr x1)) := by
  refine jW_of (QQ := fun A => (jQi D (j_X3_of_G uglv x1) (jM b0 bP bR bS bT bG bW bH bO cP cR cS cT cG cW cH cO uplace urow upts utks uglv uwin uheld utab udrawn udealt uon uturn uled utr (j_X3_of_G_uthr x1)) [(cP, .int), (cR, .int), (cS, .int), (cT, .int), (cG, .int), (cW, .int), (cH, .int), (cO, .int)] A)) (cc := cX3_of) (maxL := 3) (ret := (some .int)) (by decide) rfl (Nat.le_of_ble_eq_true rfl) ?_
  intro p e s m below meth c ls A S hr hlocks hini hP hK hN hD hS hA hl
  obtain ⟨hx, hb, hml, hown, hts⟩ := id S
  have hl : lv_has ls 3 [(0, .ref b0), (1, .ref bG), (2, .int x1)] := hl
  refine lv_aload_n hx hb dX3_of_0 rfl (lv_at hl 0 rfl) ?_
  refine lv_iload_n hx hb dX3_of_1 rfl (lv_at hl 2 rfl) ?_
  refine jr_callS (n := 1) (As := [.int x1]) (rest := [.ref b0]) S (c_X3_isArchivist x1) gX3_of_X3_isArchivist rfl (by decide +kernel) rfl ⟨⟨rfl, rfl⟩, ⟨Nat.le_of_ble_eq_true rfl, Nat.le_of_ble_eq_true rfl⟩, Nat.le_of_ble_eq_true rfl, Nat.le_of_ble_eq_true rfl⟩ hP hK hN [] [] rfl rfl (lv_nil hl) rfl (Nat.le_of_ble_eq_true rfl) dX3_of_2 ?_
  refine lv_if_eq (tgt := 12) hx hb dX3_of_5 (by decide) (fun c_1 => ?_) (fun c_1 => ?_)
  · skip
    refine lv_iconst (v := 1) hx hb dX3_of_12 (by decide) ?_
    refine va_put (D := D) (ci := 3) (v := .int 1) (ty := .int) (C := RX3) (T := TX3) (N := 15) hx hb hts inX3_of_G_X3 tyX3 tyX3_ok nmX3 hown hK hP hD hS 0 rfl rfl 12 (by decide) (hts (.fieldLink RX3 41 "ArchivistTricksModel" "thrown" "I") (by decide +kernel)) (fun _ h9 => h9) rfl (by decide +kernel) rfl rfl (Nat.le_of_ble_eq_true rfl) dX3_of_13 (fun H locs hP hD hS => ?_)
    have hP : va_P D vwCl [(b0, .inr (3, [.ref bP, .ref bR, .int udrawn, .int udealt, .int uon, .int uturn, .int uled, .int utr, .ref bS, .ref bT, .ref bG, .ref bW, .int 1, .ref bH, .ref bO])), (bP, .inl (cP, 42, .inl uplace)), (bR, .inl (cR, 42, .inl urow)), (bS, .inl (cS, 2, .inl upts)), (bT, .inl (cT, 2, .inl utks)), (bG, .inl (cG, 2, .inl uglv)), (bW, .inl (cW, 2, .inl uwin)), (bH, .inl (cH, 12, .inl uheld)), (bO, .inl (cO, 8192, .inl utab))] H := hP
    have hD : va_D A [(b0, .inr (3, [.ref bP, .ref bR, .int udrawn, .int udealt, .int uon, .int uturn, .int uled, .int utr, .ref bS, .ref bT, .ref bG, .ref bW, .int 1, .ref bH, .ref bO])), (bP, .inl (cP, 42, .inl uplace)), (bR, .inl (cR, 42, .inl urow)), (bS, .inl (cS, 2, .inl upts)), (bT, .inl (cT, 2, .inl utks)), (bG, .inl (cG, 2, .inl uglv)), (bW, .inl (cW, 2, .inl uwin)), (bH, .inl (cH, 12, .inl uheld)), (bO, .inl (cO, 8192, .inl utab))] := hD
    refine lv_aload_n hx hb dX3_of_16 rfl (lv_at hl 0 rfl) ?_
    refine va_get (D := D) (ci := 3) (v := .int 1) (C := RX3) (T := TX3) (N := 15) hx hb hts inX3_of_G_X3 hown hK hP 0 rfl rfl 12 (by decide) (hts (.fieldLink RX3 41 "ArchivistTricksModel" "thrown" "I") (by decide +kernel)) (fun _ h9 => h9) rfl dX3_of_17 ?_
    refine lv_if_ne (tgt := 29) hx hb dX3_of_20 (by decide) (fun _ => ?_) (fun c_ => absurd c_ (by decide))
    refine lv_iconst (v := 0) hx hb dX3_of_29 (by decide) ?_
    exact jw_iret hx hb hr hlocks hK hP hD hS dX3_of_30 (by  simp only [j_X3_of_G, if_pos c_1]) (by  simp only [j_X3_of_G_uthr, if_pos c_1])
  · skip
    refine lv_iconst (v := 0) hx hb dX3_of_8 (by decide) ?_
    refine lv_goto (tgt := 13) hx hb dX3_of_9 (by decide) ?_
    refine va_put (D := D) (ci := 3) (v := .int 0) (ty := .int) (C := RX3) (T := TX3) (N := 15) hx hb hts inX3_of_G_X3 tyX3 tyX3_ok nmX3 hown hK hP hD hS 0 rfl rfl 12 (by decide) (hts (.fieldLink RX3 41 "ArchivistTricksModel" "thrown" "I") (by decide +kernel)) (fun _ h9 => h9) rfl (by decide +kernel) rfl rfl (Nat.le_of_ble_eq_true rfl) dX3_of_13 (fun H locs hP hD hS => ?_)
    have hP : va_P D vwCl [(b0, .inr (3, [.ref bP, .ref bR, .int udrawn, .int udealt, .int uon, .int uturn, .int uled, .int utr, .ref bS, .ref bT, .ref bG, .ref bW, .int 0, .ref bH, .ref bO])), (bP, .inl (cP, 42, .inl uplace)), (bR, .inl (cR, 42, .inl urow)), (bS, .inl (cS, 2, .inl upts)), (bT, .inl (cT, 2, .inl utks)), (bG, .inl (cG, 2, .inl uglv)), (bW, .inl (cW, 2, .inl uwin)), (bH, .inl (cH, 12, .inl uheld)), (bO, .inl (cO, 8192, .inl utab))] H := hP
    have hD : va_D A [(b0, .inr (3, [.ref bP, .ref bR, .int udrawn, .int udealt, .int uon, .int uturn, .int uled, .int utr, .ref bS, .ref bT, .ref bG, .ref bW, .int 0, .ref bH, .ref bO])), (bP, .inl (cP, 42, .inl uplace)), (bR, .inl (cR, 42, .inl urow)), (bS, .inl (cS, 2, .inl upts)), (bT, .inl (cT, 2, .inl utks)), (bG, .inl (cG, 2, .inl uglv)), (bW, .inl (cW, 2, .inl uwin)), (bH, .inl (cH, 12, .inl uheld)), (bO, .inl (cO, 8192, .inl utab))] := hD
    refine lv_aload_n hx hb dX3_of_16 rfl (lv_at hl 0 rfl) ?_
    refine va_get (D := D) (ci := 3) (v := .int 0) (C := RX3) (T := TX3) (N := 15) hx hb hts inX3_of_G_X3 hown hK hP 0 rfl rfl 12 (by decide) (hts (.fieldLink RX3 41 "ArchivistTricksModel" "thrown" "I") (by decide +kernel)) (fun _ h9 => h9) rfl dX3_of_17 ?_
    refine lv_if_ne (tgt := 29) hx hb dX3_of_20 (by decide) (fun c_ => absurd (by decide) c_) (fun _ => ?_)
    refine lv_aload_n hx hb dX3_of_23 rfl (lv_at hl 1 rfl) ?_
    refine lv_iload_n hx hb dX3_of_24 rfl (lv_at hl 2 rfl) ?_
    refine va_iald hx hb hK hP 5 4 rfl rfl (i := x1) (jx_arch c_1) dX3_of_25 ?_
    refine lv_goto (tgt := 30) hx hb dX3_of_26 (by decide) ?_
    exact jw_iret hx hb hr hlocks hK hP hD hS dX3_of_30 (by  simp only [j_X3_of_G, if_neg c_1]) (by  simp only [j_X3_of_G_uthr, if_neg c_1])

abbrev rX3_points : Room := { frames := 2, cells := 0, slots := 0, locals := 42 }
def j_X3_points (upts : Nat → Int32) (x0 : Int32) : Int32 := j_X3_of_S upts x0
def j_X3_points_uthr (x0 : Int32) : Int32 := j_X3_of_S_uthr x0
theorem inX3_points_X3 : ∀ w ∈ u_ws RX3 TX3 15, w ∈ wsX3_points := by decide +kernel
set_option maxRecDepth 100000 in
set_option maxHeartbeats 8000000 in
theorem c_X3_points {l : Launch} {D : va_G} (b0 : Nat) (bP : Nat) (bR : Nat) (bS : Nat) (bT : Nat) (bG : Nat) (bW : Nat) (bH : Nat) (bO : Nat) (cP : ClassId) (cR : ClassId) (cS : ClassId) (cT : ClassId) (cG : ClassId) (cW : ClassId) (cH : ClassId) (cO : ClassId) (uplace : Nat → Int32) (urow : Nat → Int32) (upts : Nat → Int32) (utks : Nat → Int32) (uglv : Nat → Int32) (uwin : Nat → Int32) (uheld : Nat → Int32) (utab : Nat → Int32) (udrawn : Int32) (udealt : Int32) (uon : Int32) (uturn : Int32) (uled : Int32) (utr : Int32) (uthr : Int32) (x0 : Int32) : jWi l yX3_points wsX3_points rX3_points D [.ref b0, .int x0] (jM b0 bP bR bS bT bG bW bH bO cP cR cS cT cG cW cH cO uplace urow upts utks uglv uwin uheld utab udrawn udealt uon uturn uled utr uthr) [(cP, .int), (cR, .int), (cS, .int), (cT, .int), (cG, .int), (cW, .int), (cH, .int), (cO, .int)] (j_X3_points upts x0) (jM b0 bP bR bS bT bG bW bH bO cP cR cS cT cG cW cH cO uplace urow upts utks uglv uwin uheld utab udrawn udealt uon uturn uled utr (j_X3_points_uthr x0)) := by
  refine jW_of (QQ := fun A => (jQi D (j_X3_points upts x0) (jM b0 bP bR bS bT bG bW bH bO cP cR cS cT cG cW cH cO uplace urow upts utks uglv uwin uheld utab udrawn udealt uon uturn uled utr (j_X3_points_uthr x0)) [(cP, .int), (cR, .int), (cS, .int), (cT, .int), (cG, .int), (cW, .int), (cH, .int), (cO, .int)] A)) (cc := cX3_points) (maxL := 2) (ret := (some .int)) (by decide) rfl (Nat.le_of_ble_eq_true rfl) ?_
  intro p e s m below meth c ls A S hr hlocks hini hP hK hN hD hS hA hl
  obtain ⟨hx, hb, hml, hown, hts⟩ := id S
  have hl : lv_has ls 2 [(0, .ref b0), (1, .int x0)] := hl
  refine lv_aload_n hx hb dX3_points_0 rfl (lv_at hl 0 rfl) ?_
  refine lv_aload_n hx hb dX3_points_1 rfl (lv_at hl 0 rfl) ?_
  refine va_get (D := D) (ci := 3) (v := .ref bS) (C := RX3) (T := TX3) (N := 15) hx hb hts inX3_points_X3 hown hK hP 0 rfl rfl 8 (by decide) (hts (.fieldLink RX3 23 "ArchivistTricksModel" "points" "[I") (by decide +kernel)) (fun _ h9 => h9) rfl dX3_points_2 ?_
  refine lv_iload_n hx hb dX3_points_5 rfl (lv_at hl 1 rfl) ?_
  refine jw_callVi (n := 2) (C := RX3) (As := [.ref bS, .int x0]) (rest := []) (wr := []) (wn := [(b0, .inr (3, [.ref bP, .ref bR, .int udrawn, .int udealt, .int uon, .int uturn, .int uled, .int utr, .ref bS, .ref bT, .ref bG, .ref bW, .int (j_X3_of_S_uthr x0), .ref bH, .ref bO])), (bP, .inl (cP, 42, .inl uplace)), (bR, .inl (cR, 42, .inl urow)), (bS, .inl (cS, 2, .inl upts)), (bT, .inl (cT, 2, .inl utks)), (bG, .inl (cG, 2, .inl uglv)), (bW, .inl (cW, 2, .inl uwin)), (bH, .inl (cH, 12, .inl uheld)), (bO, .inl (cO, 8192, .inl utab))]) S (c_X3_of_S b0 bP bR bS bT bG bW bH bO cP cR cS cT cG cW cH cO uplace urow upts utks uglv uwin uheld utab udrawn udealt uon uturn uled utr uthr x0) gX3_points_X3_of rfl (by decide +kernel) rfl ⟨⟨rfl, rfl⟩, ⟨Nat.le_of_ble_eq_true rfl, Nat.le_of_ble_eq_true rfl⟩, Nat.le_of_ble_eq_true rfl, Nat.le_of_ble_eq_true rfl⟩ hP hK hN hD hS hA [0, 1, 2, 3, 4, 5, 6, 7, 8] [] [0, 1, 2, 3, 4, 5, 6, 7, 8] [0, 1, 2, 3, 4, 5, 6, 7] rfl rfl ⟨rfl, rfl, rfl⟩ (by decide) rfl rfl 0 3 rfl rfl rfl (lv_nil hl) rfl (Nat.le_of_ble_eq_true rfl) dX3_points_6 (fun H locs hP hD hS => ?_)
  exact jw_iret hx hb hr hlocks hK hP hD hS dX3_points_9 (by  simp only [j_X3_points]) (by  simp only [j_X3_points_uthr])

abbrev rX3_tricks : Room := { frames := 2, cells := 0, slots := 0, locals := 42 }
def j_X3_tricks (utks : Nat → Int32) (x0 : Int32) : Int32 := j_X3_of_T utks x0
def j_X3_tricks_uthr (x0 : Int32) : Int32 := j_X3_of_T_uthr x0
theorem inX3_tricks_X3 : ∀ w ∈ u_ws RX3 TX3 15, w ∈ wsX3_tricks := by decide +kernel
set_option maxRecDepth 100000 in
set_option maxHeartbeats 8000000 in
theorem c_X3_tricks {l : Launch} {D : va_G} (b0 : Nat) (bP : Nat) (bR : Nat) (bS : Nat) (bT : Nat) (bG : Nat) (bW : Nat) (bH : Nat) (bO : Nat) (cP : ClassId) (cR : ClassId) (cS : ClassId) (cT : ClassId) (cG : ClassId) (cW : ClassId) (cH : ClassId) (cO : ClassId) (uplace : Nat → Int32) (urow : Nat → Int32) (upts : Nat → Int32) (utks : Nat → Int32) (uglv : Nat → Int32) (uwin : Nat → Int32) (uheld : Nat → Int32) (utab : Nat → Int32) (udrawn : Int32) (udealt : Int32) (uon : Int32) (uturn : Int32) (uled : Int32) (utr : Int32) (uthr : Int32) (x0 : Int32) : jWi l yX3_tricks wsX3_tricks rX3_tricks D [.ref b0, .int x0] (jM b0 bP bR bS bT bG bW bH bO cP cR cS cT cG cW cH cO uplace urow upts utks uglv uwin uheld utab udrawn udealt uon uturn uled utr uthr) [(cP, .int), (cR, .int), (cS, .int), (cT, .int), (cG, .int), (cW, .int), (cH, .int), (cO, .int)] (j_X3_tricks utks x0) (jM b0 bP bR bS bT bG bW bH bO cP cR cS cT cG cW cH cO uplace urow upts utks uglv uwin uheld utab udrawn udealt uon uturn uled utr (j_X3_tricks_uthr x0)) := by
  refine jW_of (QQ := fun A => (jQi D (j_X3_tricks utks x0) (jM b0 bP bR bS bT bG bW bH bO cP cR cS cT cG cW cH cO uplace urow upts utks uglv uwin uheld utab udrawn udealt uon uturn uled utr (j_X3_tricks_uthr x0)) [(cP, .int), (cR, .int), (cS, .int), (cT, .int), (cG, .int), (cW, .int), (cH, .int), (cO, .int)] A)) (cc := cX3_tricks) (maxL := 2) (ret := (some .int)) (by decide) rfl (Nat.le_of_ble_eq_true rfl) ?_
  intro p e s m below meth c ls A S hr hlocks hini hP hK hN hD hS hA hl
  obtain ⟨hx, hb, hml, hown, hts⟩ := id S
  have hl : lv_has ls 2 [(0, .ref b0), (1, .int x0)] := hl
  refine lv_aload_n hx hb dX3_tricks_0 rfl (lv_at hl 0 rfl) ?_
  refine lv_aload_n hx hb dX3_tricks_1 rfl (lv_at hl 0 rfl) ?_
  refine va_get (D := D) (ci := 3) (v := .ref bT) (C := RX3) (T := TX3) (N := 15) hx hb hts inX3_tricks_X3 hown hK hP 0 rfl rfl 9 (by decide) (hts (.fieldLink RX3 26 "ArchivistTricksModel" "tricks" "[I") (by decide +kernel)) (fun _ h9 => h9) rfl dX3_tricks_2 ?_
  refine lv_iload_n hx hb dX3_tricks_5 rfl (lv_at hl 1 rfl) ?_
  refine jw_callVi (n := 2) (C := RX3) (As := [.ref bT, .int x0]) (rest := []) (wr := []) (wn := [(b0, .inr (3, [.ref bP, .ref bR, .int udrawn, .int udealt, .int uon, .int uturn, .int uled, .int utr, .ref bS, .ref bT, .ref bG, .ref bW, .int (j_X3_of_T_uthr x0), .ref bH, .ref bO])), (bP, .inl (cP, 42, .inl uplace)), (bR, .inl (cR, 42, .inl urow)), (bS, .inl (cS, 2, .inl upts)), (bT, .inl (cT, 2, .inl utks)), (bG, .inl (cG, 2, .inl uglv)), (bW, .inl (cW, 2, .inl uwin)), (bH, .inl (cH, 12, .inl uheld)), (bO, .inl (cO, 8192, .inl utab))]) S (c_X3_of_T b0 bP bR bS bT bG bW bH bO cP cR cS cT cG cW cH cO uplace urow upts utks uglv uwin uheld utab udrawn udealt uon uturn uled utr uthr x0) gX3_tricks_X3_of rfl (by decide +kernel) rfl ⟨⟨rfl, rfl⟩, ⟨Nat.le_of_ble_eq_true rfl, Nat.le_of_ble_eq_true rfl⟩, Nat.le_of_ble_eq_true rfl, Nat.le_of_ble_eq_true rfl⟩ hP hK hN hD hS hA [0, 1, 2, 3, 4, 5, 6, 7, 8] [] [0, 1, 2, 3, 4, 5, 6, 7, 8] [0, 1, 2, 3, 4, 5, 6, 7] rfl rfl ⟨rfl, rfl, rfl⟩ (by decide) rfl rfl 0 3 rfl rfl rfl (lv_nil hl) rfl (Nat.le_of_ble_eq_true rfl) dX3_tricks_6 (fun H locs hP hD hS => ?_)
  exact jw_iret hx hb hr hlocks hK hP hD hS dX3_tricks_9 (by  simp only [j_X3_tricks]) (by  simp only [j_X3_tricks_uthr])

abbrev rX3_gloves : Room := { frames := 2, cells := 0, slots := 0, locals := 42 }
def j_X3_gloves (uglv : Nat → Int32) (x0 : Int32) : Int32 := j_X3_of_G uglv x0
def j_X3_gloves_uthr (x0 : Int32) : Int32 := j_X3_of_G_uthr x0
theorem inX3_gloves_X3 : ∀ w ∈ u_ws RX3 TX3 15, w ∈ wsX3_gloves := by decide +kernel
set_option maxRecDepth 100000 in
set_option maxHeartbeats 8000000 in
theorem c_X3_gloves {l : Launch} {D : va_G} (b0 : Nat) (bP : Nat) (bR : Nat) (bS : Nat) (bT : Nat) (bG : Nat) (bW : Nat) (bH : Nat) (bO : Nat) (cP : ClassId) (cR : ClassId) (cS : ClassId) (cT : ClassId) (cG : ClassId) (cW : ClassId) (cH : ClassId) (cO : ClassId) (uplace : Nat → Int32) (urow : Nat → Int32) (upts : Nat → Int32) (utks : Nat → Int32) (uglv : Nat → Int32) (uwin : Nat → Int32) (uheld : Nat → Int32) (utab : Nat → Int32) (udrawn : Int32) (udealt : Int32) (uon : Int32) (uturn : Int32) (uled : Int32) (utr : Int32) (uthr : Int32) (x0 : Int32) : jWi l yX3_gloves wsX3_gloves rX3_gloves D [.ref b0, .int x0] (jM b0 bP bR bS bT bG bW bH bO cP cR cS cT cG cW cH cO uplace urow upts utks uglv uwin uheld utab udrawn udealt uon uturn uled utr uthr) [(cP, .int), (cR, .int), (cS, .int), (cT, .int), (cG, .int), (cW, .int), (cH, .int), (cO, .int)] (j_X3_gloves uglv x0) (jM b0 bP bR bS bT bG bW bH bO cP cR cS cT cG cW cH cO uplace urow upts utks uglv uwin uheld utab udrawn udealt uon uturn uled utr (j_X3_gloves_uthr x0)) := by
  refine jW_of (QQ := fun A => (jQi D (j_X3_gloves uglv x0) (jM b0 bP bR bS bT bG bW bH bO cP cR cS cT cG cW cH cO uplace urow upts utks uglv uwin uheld utab udrawn udealt uon uturn uled utr (j_X3_gloves_uthr x0)) [(cP, .int), (cR, .int), (cS, .int), (cT, .int), (cG, .int), (cW, .int), (cH, .int), (cO, .int)] A)) (cc := cX3_gloves) (maxL := 2) (ret := (some .int)) (by decide) rfl (Nat.le_of_ble_eq_true rfl) ?_
  intro p e s m below meth c ls A S hr hlocks hini hP hK hN hD hS hA hl
  obtain ⟨hx, hb, hml, hown, hts⟩ := id S
  have hl : lv_has ls 2 [(0, .ref b0), (1, .int x0)] := hl
  refine lv_aload_n hx hb dX3_gloves_0 rfl (lv_at hl 0 rfl) ?_
  refine lv_aload_n hx hb dX3_gloves_1 rfl (lv_at hl 0 rfl) ?_
  refine va_get (D := D) (ci := 3) (v := .ref bG) (C := RX3) (T := TX3) (N := 15) hx hb hts inX3_gloves_X3 hown hK hP 0 rfl rfl 10 (by decide) (hts (.fieldLink RX3 29 "ArchivistTricksModel" "gloves" "[I") (by decide +kernel)) (fun _ h9 => h9) rfl dX3_gloves_2 ?_
  refine lv_iload_n hx hb dX3_gloves_5 rfl (lv_at hl 1 rfl) ?_
  refine jw_callVi (n := 2) (C := RX3) (As := [.ref bG, .int x0]) (rest := []) (wr := []) (wn := [(b0, .inr (3, [.ref bP, .ref bR, .int udrawn, .int udealt, .int uon, .int uturn, .int uled, .int utr, .ref bS, .ref bT, .ref bG, .ref bW, .int (j_X3_of_G_uthr x0), .ref bH, .ref bO])), (bP, .inl (cP, 42, .inl uplace)), (bR, .inl (cR, 42, .inl urow)), (bS, .inl (cS, 2, .inl upts)), (bT, .inl (cT, 2, .inl utks)), (bG, .inl (cG, 2, .inl uglv)), (bW, .inl (cW, 2, .inl uwin)), (bH, .inl (cH, 12, .inl uheld)), (bO, .inl (cO, 8192, .inl utab))]) S (c_X3_of_G b0 bP bR bS bT bG bW bH bO cP cR cS cT cG cW cH cO uplace urow upts utks uglv uwin uheld utab udrawn udealt uon uturn uled utr uthr x0) gX3_gloves_X3_of rfl (by decide +kernel) rfl ⟨⟨rfl, rfl⟩, ⟨Nat.le_of_ble_eq_true rfl, Nat.le_of_ble_eq_true rfl⟩, Nat.le_of_ble_eq_true rfl, Nat.le_of_ble_eq_true rfl⟩ hP hK hN hD hS hA [0, 1, 2, 3, 4, 5, 6, 7, 8] [] [0, 1, 2, 3, 4, 5, 6, 7, 8] [0, 1, 2, 3, 4, 5, 6, 7] rfl rfl ⟨rfl, rfl, rfl⟩ (by decide) rfl rfl 0 3 rfl rfl rfl (lv_nil hl) rfl (Nat.le_of_ble_eq_true rfl) dX3_gloves_6 (fun H locs hP hD hS => ?_)
  exact jw_iret hx hb hr hlocks hK hP hD hS dX3_gloves_9 (by  simp only [j_X3_gloves]) (by  simp only [j_X3_gloves_uthr])

abbrev rX3_play : Room := { frames := 4, cells := 0, slots := 0, locals := 88 }
def j_X3_play (uplace : Nat → Int32) (udrawn : Int32) (udealt : Int32) (uon : Int32) (uturn : Int32) (uled : Int32) (utr : Int32) (x0 : Int32) : Int32 := (if j_X3_isCard x0 = 0 then 0 else (if j_X3_why uplace udrawn udealt uon uturn uled utr x0 = 0 then (if uled < 0 then (-1) else j_X3_ends uturn uled utr x0) else 0))
def j_X3_play_uplace (uplace : Nat → Int32) (urow : Nat → Int32) (udrawn : Int32) (udealt : Int32) (uon : Int32) (uturn : Int32) (uled : Int32) (utr : Int32) (x0 : Int32) : Nat → Int32 := (if j_X3_isCard x0 = 0 then uplace else (if j_X3_why uplace udrawn udealt uon uturn uled utr x0 = 0 then (if uled < 0 then upd uplace x0.toNatClampNeg (3 : Int32) else j_X3_ends_uplace uplace urow udrawn udealt uturn uled utr x0) else uplace))
def j_X3_play_upts (uplace : Nat → Int32) (upts : Nat → Int32) (uglv : Nat → Int32) (udrawn : Int32) (udealt : Int32) (uon : Int32) (uturn : Int32) (uled : Int32) (utr : Int32) (x0 : Int32) : Nat → Int32 := (if j_X3_isCard x0 = 0 then upts else (if j_X3_why uplace udrawn udealt uon uturn uled utr x0 = 0 then (if uled < 0 then upts else j_X3_ends_upts upts uglv uturn uled utr x0) else upts))
def j_X3_play_utks (uplace : Nat → Int32) (utks : Nat → Int32) (udrawn : Int32) (udealt : Int32) (uon : Int32) (uturn : Int32) (uled : Int32) (utr : Int32) (x0 : Int32) : Nat → Int32 := (if j_X3_isCard x0 = 0 then utks else (if j_X3_why uplace udrawn udealt uon uturn uled utr x0 = 0 then (if uled < 0 then utks else j_X3_ends_utks utks uturn uled utr x0) else utks))
def j_X3_play_uglv (uplace : Nat → Int32) (uglv : Nat → Int32) (udrawn : Int32) (udealt : Int32) (uon : Int32) (uturn : Int32) (uled : Int32) (utr : Int32) (x0 : Int32) : Nat → Int32 := (if j_X3_isCard x0 = 0 then uglv else (if j_X3_why uplace udrawn udealt uon uturn uled utr x0 = 0 then (if uled < 0 then uglv else j_X3_ends_uglv uglv) else uglv))
def j_X3_play_uwin (uplace : Nat → Int32) (urow : Nat → Int32) (upts : Nat → Int32) (uglv : Nat → Int32) (uwin : Nat → Int32) (udrawn : Int32) (udealt : Int32) (uon : Int32) (uturn : Int32) (uled : Int32) (utr : Int32) (x0 : Int32) : Nat → Int32 := (if j_X3_isCard x0 = 0 then uwin else (if j_X3_why uplace udrawn udealt uon uturn uled utr x0 = 0 then (if uled < 0 then uwin else j_X3_ends_uwin uplace urow upts uglv uwin udrawn udealt uturn uled utr x0) else uwin))
def j_X3_play_udrawn (uplace : Nat → Int32) (udrawn : Int32) (udealt : Int32) (uon : Int32) (uturn : Int32) (uled : Int32) (utr : Int32) (x0 : Int32) : Int32 := (if j_X3_isCard x0 = 0 then udrawn else (if j_X3_why uplace udrawn udealt uon uturn uled utr x0 = 0 then (if uled < 0 then udrawn else j_X3_ends_udrawn udrawn udealt) else udrawn))
def j_X3_play_uon (uplace : Nat → Int32) (urow : Nat → Int32) (udrawn : Int32) (udealt : Int32) (uon : Int32) (uturn : Int32) (uled : Int32) (utr : Int32) (x0 : Int32) : Int32 := (if j_X3_isCard x0 = 0 then uon else (if j_X3_why uplace udrawn udealt uon uturn uled utr x0 = 0 then (if uled < 0 then uon else j_X3_ends_uon uplace urow udrawn udealt uon uturn uled utr x0) else uon))
def j_X3_play_uturn (uplace : Nat → Int32) (udrawn : Int32) (udealt : Int32) (uon : Int32) (uturn : Int32) (uled : Int32) (utr : Int32) (x0 : Int32) : Int32 := (if j_X3_isCard x0 = 0 then uturn else (if j_X3_why uplace udrawn udealt uon uturn uled utr x0 = 0 then (if uled < 0 then 1 - uturn else j_X3_ends_uturn uturn uled utr x0) else uturn))
def j_X3_play_uled (uplace : Nat → Int32) (udrawn : Int32) (udealt : Int32) (uon : Int32) (uturn : Int32) (uled : Int32) (utr : Int32) (x0 : Int32) : Int32 := (if j_X3_isCard x0 = 0 then uled else (if j_X3_why uplace udrawn udealt uon uturn uled utr x0 = 0 then (if uled < 0 then x0 else j_X3_ends_uled) else uled))
def j_X3_play_uthr (uplace : Nat → Int32) (udrawn : Int32) (udealt : Int32) (uon : Int32) (uturn : Int32) (uled : Int32) (utr : Int32) (x0 : Int32) : Int32 := (if j_X3_isCard x0 = 0 then 1 else (if j_X3_why uplace udrawn udealt uon uturn uled utr x0 = 0 then 0 else 2))
theorem inX3_play_X3 : ∀ w ∈ u_ws RX3 TX3 15, w ∈ wsX3_play := by decide +kernel
set_option maxRecDepth 100000 in
set_option maxHeartbeats 8000000 in
theorem c_X3_play {l : Launch} {D : va_G} (b0 : Nat) (bP : Nat) (bR : Nat) (bS : Nat) (bT : Nat) (bG : Nat) (bW : Nat) (bH : Nat) (bO : Nat) (cP : ClassId) (cR : ClassId) (cS : ClassId) (cT : ClassId) (cG : ClassId) (cW : ClassId) (cH : ClassId) (cO : ClassId) (uplace : Nat → Int32) (urow : Nat → Int32) (upts : Nat → Int32) (utks : Nat → Int32) (uglv : Nat → Int32) (uwin : Nat → Int32) (uheld : Nat → Int32) (utab : Nat → Int32) (udrawn : Int32) (udealt : Int32) (uon : Int32) (uturn : Int32) (uled : Int32) (utr : Int32) (uthr : Int32) (x0 : Int32) (ht : uturn = 0 ∨ uturn = 1) (hle : ¬ uled < 0 → vp_in uled 42) (hd : ∃ k, k ≤ 30 ∧ udrawn = nI k) (hrw : ∀ j, j < 42 → vp_in (urow j) 42) : jWi l yX3_play wsX3_play rX3_play D [.ref b0, .int x0] (jM b0 bP bR bS bT bG bW bH bO cP cR cS cT cG cW cH cO uplace urow upts utks uglv uwin uheld utab udrawn udealt uon uturn uled utr uthr) [(cP, .int), (cR, .int), (cS, .int), (cT, .int), (cG, .int), (cW, .int), (cH, .int), (cO, .int)] (j_X3_play uplace udrawn udealt uon uturn uled utr x0) (jM b0 bP bR bS bT bG bW bH bO cP cR cS cT cG cW cH cO (j_X3_play_uplace uplace urow udrawn udealt uon uturn uled utr x0) urow (j_X3_play_upts uplace upts uglv udrawn udealt uon uturn uled utr x0) (j_X3_play_utks uplace utks udrawn udealt uon uturn uled utr x0) (j_X3_play_uglv uplace uglv udrawn udealt uon uturn uled utr x0) (j_X3_play_uwin uplace urow upts uglv uwin udrawn udealt uon uturn uled utr x0) uheld utab (j_X3_play_udrawn uplace udrawn udealt uon uturn uled utr x0) udealt (j_X3_play_uon uplace urow udrawn udealt uon uturn uled utr x0) (j_X3_play_uturn uplace udrawn udealt uon uturn uled utr x0) (j_X3_play_uled uplace udrawn udealt uon uturn uled utr x0) utr (j_X3_play_uthr uplace udrawn udealt uon uturn uled utr x0)) := by
  refine jW_of (QQ := fun A => (jQi D (j_X3_play uplace udrawn udealt uon uturn uled utr x0) (jM b0 bP bR bS bT bG bW bH bO cP cR cS cT cG cW cH cO (j_X3_play_uplace uplace urow udrawn udealt uon uturn uled utr x0) urow (j_X3_play_upts uplace upts uglv udrawn udealt uon uturn uled utr x0) (j_X3_play_utks uplace utks udrawn udealt uon uturn uled utr x0) (j_X3_play_uglv uplace uglv udrawn udealt uon uturn uled utr x0) (j_X3_play_uwin uplace urow upts uglv uwin udrawn udealt uon uturn uled utr x0) uheld utab (j_X3_play_udrawn uplace udrawn udealt uon uturn uled utr x0) udealt (j_X3_play_uon uplace urow udrawn udealt uon uturn uled utr x0) (j_X3_play_uturn uplace udrawn udealt uon uturn uled utr x0) (j_X3_play_uled uplace udrawn udealt uon uturn uled utr x0) utr (j_X3_play_uthr uplace udrawn udealt uon uturn uled utr x0)) [(cP, .int), (cR, .int), (cS, .int), (cT, .int), (cG, .int), (cW, .int), (cH, .int), (cO, .int)] A)) (cc := cX3_play) (maxL := 2) (ret := (some .int)) (by decide) rfl (Nat.le_of_ble_eq_true rfl) ?_
  intro p e s m below meth c ls A S hr hlocks hini hP hK hN hD hS hA hl
  obtain ⟨hx, hb, hml, hown, hts⟩ := id S
  have hl : lv_has ls 2 [(0, .ref b0), (1, .int x0)] := hl
  refine lv_aload_n hx hb dX3_play_0 rfl (lv_at hl 0 rfl) ?_
  refine lv_iload_n hx hb dX3_play_1 rfl (lv_at hl 1 rfl) ?_
  refine jr_callS (n := 1) (As := [.int x0]) (rest := [.ref b0]) S (c_X3_isCard x0) gX3_play_X3_isCard rfl (by decide +kernel) rfl ⟨⟨rfl, rfl⟩, ⟨Nat.le_of_ble_eq_true rfl, Nat.le_of_ble_eq_true rfl⟩, Nat.le_of_ble_eq_true rfl, Nat.le_of_ble_eq_true rfl⟩ hP hK hN [] [] rfl rfl (lv_nil hl) rfl (Nat.le_of_ble_eq_true rfl) dX3_play_2 ?_
  refine lv_if_ne (tgt := 12) hx hb dX3_play_5 (by decide) (fun c_1 => ?_) (fun c_1 => ?_)
  · skip
    refine lv_aload_n hx hb dX3_play_12 rfl (lv_at hl 0 rfl) ?_
    refine lv_iload_n hx hb dX3_play_13 rfl (lv_at hl 1 rfl) ?_
    refine jr_callV (n := 1) (C := RX3) (As := [.int x0]) (rest := [.ref b0]) S (c_X3_why b0 bP bR bS bT bG bW bH bO cP cR cS cT cG cW cH cO uplace urow upts utks uglv uwin uheld utab udrawn udealt uon uturn uled utr uthr x0 (jx_card c_1)) gX3_play_X3_why rfl (by decide +kernel) rfl ⟨⟨rfl, rfl⟩, ⟨Nat.le_of_ble_eq_true rfl, Nat.le_of_ble_eq_true rfl⟩, Nat.le_of_ble_eq_true rfl, Nat.le_of_ble_eq_true rfl⟩ hP hK hN [0, 1, 2, 3, 4, 5, 6, 7, 8] [0, 1, 2, 3, 4, 5, 6, 7] rfl rfl 0 3 rfl rfl rfl (lv_nil hl) rfl (Nat.le_of_ble_eq_true rfl) dX3_play_14 ?_
    refine lv_if_eq (tgt := 24) hx hb dX3_play_17 (by decide) (fun c_2 => ?_) (fun c_2 => ?_)
    · skip
      refine lv_iconst (v := 0) hx hb dX3_play_24 (by decide) ?_
      refine va_put (D := D) (ci := 3) (v := .int 0) (ty := .int) (C := RX3) (T := TX3) (N := 15) hx hb hts inX3_play_X3 tyX3 tyX3_ok nmX3 hown hK hP hD hS 0 rfl rfl 12 (by decide) (hts (.fieldLink RX3 41 "ArchivistTricksModel" "thrown" "I") (by decide +kernel)) (fun _ h9 => h9) rfl (by decide +kernel) rfl rfl (Nat.le_of_ble_eq_true rfl) dX3_play_25 (fun H locs hP hD hS => ?_)
      have hP : va_P D vwCl [(b0, .inr (3, [.ref bP, .ref bR, .int udrawn, .int udealt, .int uon, .int uturn, .int uled, .int utr, .ref bS, .ref bT, .ref bG, .ref bW, .int 0, .ref bH, .ref bO])), (bP, .inl (cP, 42, .inl uplace)), (bR, .inl (cR, 42, .inl urow)), (bS, .inl (cS, 2, .inl upts)), (bT, .inl (cT, 2, .inl utks)), (bG, .inl (cG, 2, .inl uglv)), (bW, .inl (cW, 2, .inl uwin)), (bH, .inl (cH, 12, .inl uheld)), (bO, .inl (cO, 8192, .inl utab))] H := hP
      have hD : va_D A [(b0, .inr (3, [.ref bP, .ref bR, .int udrawn, .int udealt, .int uon, .int uturn, .int uled, .int utr, .ref bS, .ref bT, .ref bG, .ref bW, .int 0, .ref bH, .ref bO])), (bP, .inl (cP, 42, .inl uplace)), (bR, .inl (cR, 42, .inl urow)), (bS, .inl (cS, 2, .inl upts)), (bT, .inl (cT, 2, .inl utks)), (bG, .inl (cG, 2, .inl uglv)), (bW, .inl (cW, 2, .inl uwin)), (bH, .inl (cH, 12, .inl uheld)), (bO, .inl (cO, 8192, .inl utab))] := hD
      refine lv_aload_n hx hb dX3_play_28 rfl (lv_at hl 0 rfl) ?_
      refine va_get (D := D) (ci := 3) (v := .int 0) (C := RX3) (T := TX3) (N := 15) hx hb hts inX3_play_X3 hown hK hP 0 rfl rfl 12 (by decide) (hts (.fieldLink RX3 41 "ArchivistTricksModel" "thrown" "I") (by decide +kernel)) (fun _ h9 => h9) rfl dX3_play_29 ?_
      refine lv_if_eq (tgt := 37) hx hb dX3_play_32 (by decide) (fun _ => ?_) (fun c_ => absurd (by decide) c_)
      refine lv_aload_n hx hb dX3_play_37 rfl (lv_at hl 0 rfl) ?_
      refine va_get (D := D) (ci := 3) (v := .int uled) (C := RX3) (T := TX3) (N := 15) hx hb hts inX3_play_X3 hown hK hP 0 rfl rfl 6 (by decide) (hts (.fieldLink RX3 16 "ArchivistTricksModel" "ledCard" "I") (by decide +kernel)) (fun _ h9 => h9) rfl dX3_play_38 ?_
      refine lv_if_lt (tgt := 50) hx hb dX3_play_41 (by decide) (fun c_3 => ?_) (fun c_3 => ?_)
      · skip
        refine lv_aload_n hx hb dX3_play_50 rfl (lv_at hl 0 rfl) ?_
        refine lv_iload_n hx hb dX3_play_51 rfl (lv_at hl 1 rfl) ?_
        refine va_put (D := D) (ci := 3) (v := .int x0) (ty := .int) (C := RX3) (T := TX3) (N := 15) hx hb hts inX3_play_X3 tyX3 tyX3_ok nmX3 hown hK hP hD hS 0 rfl rfl 6 (by decide) (hts (.fieldLink RX3 16 "ArchivistTricksModel" "ledCard" "I") (by decide +kernel)) (fun _ h9 => h9) rfl (by decide +kernel) rfl rfl (Nat.le_of_ble_eq_true rfl) dX3_play_52 (fun H locs hP hD hS => ?_)
        have hP : va_P D vwCl [(b0, .inr (3, [.ref bP, .ref bR, .int udrawn, .int udealt, .int uon, .int uturn, .int x0, .int utr, .ref bS, .ref bT, .ref bG, .ref bW, .int 0, .ref bH, .ref bO])), (bP, .inl (cP, 42, .inl uplace)), (bR, .inl (cR, 42, .inl urow)), (bS, .inl (cS, 2, .inl upts)), (bT, .inl (cT, 2, .inl utks)), (bG, .inl (cG, 2, .inl uglv)), (bW, .inl (cW, 2, .inl uwin)), (bH, .inl (cH, 12, .inl uheld)), (bO, .inl (cO, 8192, .inl utab))] H := hP
        have hD : va_D A [(b0, .inr (3, [.ref bP, .ref bR, .int udrawn, .int udealt, .int uon, .int uturn, .int x0, .int utr, .ref bS, .ref bT, .ref bG, .ref bW, .int 0, .ref bH, .ref bO])), (bP, .inl (cP, 42, .inl uplace)), (bR, .inl (cR, 42, .inl urow)), (bS, .inl (cS, 2, .inl upts)), (bT, .inl (cT, 2, .inl utks)), (bG, .inl (cG, 2, .inl uglv)), (bW, .inl (cW, 2, .inl uwin)), (bH, .inl (cH, 12, .inl uheld)), (bO, .inl (cO, 8192, .inl utab))] := hD
        refine lv_aload_n hx hb dX3_play_55 rfl (lv_at hl 0 rfl) ?_
        refine va_get (D := D) (ci := 3) (v := .ref bP) (C := RX3) (T := TX3) (N := 15) hx hb hts inX3_play_X3 hown hK hP 0 rfl rfl 0 (by decide) (hts (.fieldLink RX3 7 "ArchivistTricksModel" "place" "[I") (by decide +kernel)) (fun _ h9 => h9) rfl dX3_play_56 ?_
        refine lv_iload_n hx hb dX3_play_59 rfl (lv_at hl 1 rfl) ?_
        refine lv_iconst (v := 3) hx hb dX3_play_60 (by decide) ?_
        refine va_iast hx hb hK hP hD hS 1 0 rfl rfl (i := x0) (jx_card c_1) dX3_play_61 (fun H locs hP hD hS => ?_)
        have hP : va_P D vwCl [(b0, .inr (3, [.ref bP, .ref bR, .int udrawn, .int udealt, .int uon, .int uturn, .int x0, .int utr, .ref bS, .ref bT, .ref bG, .ref bW, .int 0, .ref bH, .ref bO])), (bP, .inl (cP, 42, .inl (upd uplace x0.toNatClampNeg (3 : Int32)))), (bR, .inl (cR, 42, .inl urow)), (bS, .inl (cS, 2, .inl upts)), (bT, .inl (cT, 2, .inl utks)), (bG, .inl (cG, 2, .inl uglv)), (bW, .inl (cW, 2, .inl uwin)), (bH, .inl (cH, 12, .inl uheld)), (bO, .inl (cO, 8192, .inl utab))] H := hP
        have hD : va_D A [(b0, .inr (3, [.ref bP, .ref bR, .int udrawn, .int udealt, .int uon, .int uturn, .int x0, .int utr, .ref bS, .ref bT, .ref bG, .ref bW, .int 0, .ref bH, .ref bO])), (bP, .inl (cP, 42, .inl (upd uplace x0.toNatClampNeg (3 : Int32)))), (bR, .inl (cR, 42, .inl urow)), (bS, .inl (cS, 2, .inl upts)), (bT, .inl (cT, 2, .inl utks)), (bG, .inl (cG, 2, .inl uglv)), (bW, .inl (cW, 2, .inl uwin)), (bH, .inl (cH, 12, .inl uheld)), (bO, .inl (cO, 8192, .inl utab))] := hD
        refine lv_aload_n hx hb dX3_play_62 rfl (lv_at hl 0 rfl) ?_
        refine lv_iconst (v := 1) hx hb dX3_play_63 (by decide) ?_
        refine lv_aload_n hx hb dX3_play_64 rfl (lv_at hl 0 rfl) ?_
        refine va_get (D := D) (ci := 3) (v := .int uturn) (C := RX3) (T := TX3) (N := 15) hx hb hts inX3_play_X3 hown hK hP 0 rfl rfl 5 (by decide) (hts (.fieldLink RX3 69 "ArchivistTricksModel" "turn" "I") (by decide +kernel)) (fun _ h9 => h9) rfl dX3_play_65 ?_
        refine lv_isub hx hb dX3_play_68 ?_
        refine va_put (D := D) (ci := 3) (v := .int (1 - uturn)) (ty := .int) (C := RX3) (T := TX3) (N := 15) hx hb hts inX3_play_X3 tyX3 tyX3_ok nmX3 hown hK hP hD hS 0 rfl rfl 5 (by decide) (hts (.fieldLink RX3 69 "ArchivistTricksModel" "turn" "I") (by decide +kernel)) (fun _ h9 => h9) rfl (by decide +kernel) rfl rfl (Nat.le_of_ble_eq_true rfl) dX3_play_69 (fun H locs hP hD hS => ?_)
        have hP : va_P D vwCl [(b0, .inr (3, [.ref bP, .ref bR, .int udrawn, .int udealt, .int uon, .int (1 - uturn), .int x0, .int utr, .ref bS, .ref bT, .ref bG, .ref bW, .int 0, .ref bH, .ref bO])), (bP, .inl (cP, 42, .inl (upd uplace x0.toNatClampNeg (3 : Int32)))), (bR, .inl (cR, 42, .inl urow)), (bS, .inl (cS, 2, .inl upts)), (bT, .inl (cT, 2, .inl utks)), (bG, .inl (cG, 2, .inl uglv)), (bW, .inl (cW, 2, .inl uwin)), (bH, .inl (cH, 12, .inl uheld)), (bO, .inl (cO, 8192, .inl utab))] H := hP
        have hD : va_D A [(b0, .inr (3, [.ref bP, .ref bR, .int udrawn, .int udealt, .int uon, .int (1 - uturn), .int x0, .int utr, .ref bS, .ref bT, .ref bG, .ref bW, .int 0, .ref bH, .ref bO])), (bP, .inl (cP, 42, .inl (upd uplace x0.toNatClampNeg (3 : Int32)))), (bR, .inl (cR, 42, .inl urow)), (bS, .inl (cS, 2, .inl upts)), (bT, .inl (cT, 2, .inl utks)), (bG, .inl (cG, 2, .inl uglv)), (bW, .inl (cW, 2, .inl uwin)), (bH, .inl (cH, 12, .inl uheld)), (bO, .inl (cO, 8192, .inl utab))] := hD
        refine lv_iconst (v := (-1)) hx hb dX3_play_72 (by decide) ?_
        exact jw_iret hx hb hr hlocks hK hP hD hS dX3_play_73 (by  simp only [j_X3_play, if_neg c_1, if_pos c_2, if_pos c_3]) (by  simp only [j_X3_play_uplace, j_X3_play_upts, j_X3_play_utks, j_X3_play_uglv, j_X3_play_uwin, j_X3_play_udrawn, j_X3_play_uon, j_X3_play_uturn, j_X3_play_uled, j_X3_play_uthr, if_neg c_1, if_pos c_2, if_pos c_3])
      · skip
        refine lv_aload_n hx hb dX3_play_44 rfl (lv_at hl 0 rfl) ?_
        refine lv_iload_n hx hb dX3_play_45 rfl (lv_at hl 1 rfl) ?_
        refine jw_callVi (n := 1) (C := RX3) (As := [.int x0]) (rest := []) (wr := []) (wn := [(b0, .inr (3, [.ref bP, .ref bR, .int (j_X3_ends_udrawn udrawn udealt), .int udealt, .int (j_X3_ends_uon uplace urow udrawn udealt uon uturn uled utr x0), .int (j_X3_ends_uturn uturn uled utr x0), .int j_X3_ends_uled, .int utr, .ref bS, .ref bT, .ref bG, .ref bW, .int 0, .ref bH, .ref bO])), (bP, .inl (cP, 42, .inl (j_X3_ends_uplace uplace urow udrawn udealt uturn uled utr x0))), (bR, .inl (cR, 42, .inl urow)), (bS, .inl (cS, 2, .inl (j_X3_ends_upts upts uglv uturn uled utr x0))), (bT, .inl (cT, 2, .inl (j_X3_ends_utks utks uturn uled utr x0))), (bG, .inl (cG, 2, .inl (j_X3_ends_uglv uglv))), (bW, .inl (cW, 2, .inl (j_X3_ends_uwin uplace urow upts uglv uwin udrawn udealt uturn uled utr x0))), (bH, .inl (cH, 12, .inl uheld)), (bO, .inl (cO, 8192, .inl utab))]) S (c_X3_ends b0 bP bR bS bT bG bW bH bO cP cR cS cT cG cW cH cO uplace urow upts utks uglv uwin uheld utab udrawn udealt uon uturn uled utr 0 x0 (jx_card c_1) ht (hle c_3) hd hrw) gX3_play_X3_ends rfl (by decide +kernel) rfl ⟨⟨rfl, rfl⟩, ⟨Nat.le_of_ble_eq_true rfl, Nat.le_of_ble_eq_true rfl⟩, Nat.le_of_ble_eq_true rfl, Nat.le_of_ble_eq_true rfl⟩ hP hK hN hD hS hA [0, 1, 2, 3, 4, 5, 6, 7, 8] [] [0, 1, 2, 3, 4, 5, 6, 7, 8] [0, 1, 2, 3, 4, 5, 6, 7] rfl rfl ⟨rfl, rfl, rfl⟩ (by decide) rfl rfl 0 3 rfl rfl rfl (lv_nil hl) rfl (Nat.le_of_ble_eq_true rfl) dX3_play_46 (fun H locs hP hD hS => ?_)
        exact jw_iret hx hb hr hlocks hK hP hD hS dX3_play_49 (by  simp only [j_X3_play, if_neg c_1, if_pos c_2, if_neg c_3]) (by  simp only [j_X3_play_uplace, j_X3_play_upts, j_X3_play_utks, j_X3_play_uglv, j_X3_play_uwin, j_X3_play_udrawn, j_X3_play_uon, j_X3_play_uturn, j_X3_play_uled, j_X3_play_uthr, if_neg c_1, if_pos c_2, if_neg c_3])
    · skip
      refine lv_iconst (v := 2) hx hb dX3_play_20 (by decide) ?_
      refine lv_goto (tgt := 25) hx hb dX3_play_21 (by decide) ?_
      refine va_put (D := D) (ci := 3) (v := .int 2) (ty := .int) (C := RX3) (T := TX3) (N := 15) hx hb hts inX3_play_X3 tyX3 tyX3_ok nmX3 hown hK hP hD hS 0 rfl rfl 12 (by decide) (hts (.fieldLink RX3 41 "ArchivistTricksModel" "thrown" "I") (by decide +kernel)) (fun _ h9 => h9) rfl (by decide +kernel) rfl rfl (Nat.le_of_ble_eq_true rfl) dX3_play_25 (fun H locs hP hD hS => ?_)
      have hP : va_P D vwCl [(b0, .inr (3, [.ref bP, .ref bR, .int udrawn, .int udealt, .int uon, .int uturn, .int uled, .int utr, .ref bS, .ref bT, .ref bG, .ref bW, .int 2, .ref bH, .ref bO])), (bP, .inl (cP, 42, .inl uplace)), (bR, .inl (cR, 42, .inl urow)), (bS, .inl (cS, 2, .inl upts)), (bT, .inl (cT, 2, .inl utks)), (bG, .inl (cG, 2, .inl uglv)), (bW, .inl (cW, 2, .inl uwin)), (bH, .inl (cH, 12, .inl uheld)), (bO, .inl (cO, 8192, .inl utab))] H := hP
      have hD : va_D A [(b0, .inr (3, [.ref bP, .ref bR, .int udrawn, .int udealt, .int uon, .int uturn, .int uled, .int utr, .ref bS, .ref bT, .ref bG, .ref bW, .int 2, .ref bH, .ref bO])), (bP, .inl (cP, 42, .inl uplace)), (bR, .inl (cR, 42, .inl urow)), (bS, .inl (cS, 2, .inl upts)), (bT, .inl (cT, 2, .inl utks)), (bG, .inl (cG, 2, .inl uglv)), (bW, .inl (cW, 2, .inl uwin)), (bH, .inl (cH, 12, .inl uheld)), (bO, .inl (cO, 8192, .inl utab))] := hD
      refine lv_aload_n hx hb dX3_play_28 rfl (lv_at hl 0 rfl) ?_
      refine va_get (D := D) (ci := 3) (v := .int 2) (C := RX3) (T := TX3) (N := 15) hx hb hts inX3_play_X3 hown hK hP 0 rfl rfl 12 (by decide) (hts (.fieldLink RX3 41 "ArchivistTricksModel" "thrown" "I") (by decide +kernel)) (fun _ h9 => h9) rfl dX3_play_29 ?_
      refine lv_if_eq (tgt := 37) hx hb dX3_play_32 (by decide) (fun c_ => absurd c_ (by decide)) (fun _ => ?_)
      refine lv_iconst (v := 0) hx hb dX3_play_35 (by decide) ?_
      exact jw_iret hx hb hr hlocks hK hP hD hS dX3_play_36 (by  simp only [j_X3_play, if_neg c_1, if_neg c_2]) (by  simp only [j_X3_play_uplace, j_X3_play_upts, j_X3_play_utks, j_X3_play_uglv, j_X3_play_uwin, j_X3_play_udrawn, j_X3_play_uon, j_X3_play_uturn, j_X3_play_uled, j_X3_play_uthr, if_neg c_1, if_neg c_2])
  · skip
    refine lv_iconst (v := 1) hx hb dX3_play_8 (by decide) ?_
    refine lv_goto (tgt := 25) hx hb dX3_play_9 (by decide) ?_
    refine va_put (D := D) (ci := 3) (v := .int 1) (ty := .int) (C := RX3) (T := TX3) (N := 15) hx hb hts inX3_play_X3 tyX3 tyX3_ok nmX3 hown hK hP hD hS 0 rfl rfl 12 (by decide) (hts (.fieldLink RX3 41 "ArchivistTricksModel" "thrown" "I") (by decide +kernel)) (fun _ h9 => h9) rfl (by decide +kernel) rfl rfl (Nat.le_of_ble_eq_true rfl) dX3_play_25 (fun H locs hP hD hS => ?_)
    have hP : va_P D vwCl [(b0, .inr (3, [.ref bP, .ref bR, .int udrawn, .int udealt, .int uon, .int uturn, .int uled, .int utr, .ref bS, .ref bT, .ref bG, .ref bW, .int 1, .ref bH, .ref bO])), (bP, .inl (cP, 42, .inl uplace)), (bR, .inl (cR, 42, .inl urow)), (bS, .inl (cS, 2, .inl upts)), (bT, .inl (cT, 2, .inl utks)), (bG, .inl (cG, 2, .inl uglv)), (bW, .inl (cW, 2, .inl uwin)), (bH, .inl (cH, 12, .inl uheld)), (bO, .inl (cO, 8192, .inl utab))] H := hP
    have hD : va_D A [(b0, .inr (3, [.ref bP, .ref bR, .int udrawn, .int udealt, .int uon, .int uturn, .int uled, .int utr, .ref bS, .ref bT, .ref bG, .ref bW, .int 1, .ref bH, .ref bO])), (bP, .inl (cP, 42, .inl uplace)), (bR, .inl (cR, 42, .inl urow)), (bS, .inl (cS, 2, .inl upts)), (bT, .inl (cT, 2, .inl utks)), (bG, .inl (cG, 2, .inl uglv)), (bW, .inl (cW, 2, .inl uwin)), (bH, .inl (cH, 12, .inl uheld)), (bO, .inl (cO, 8192, .inl utab))] := hD
    refine lv_aload_n hx hb dX3_play_28 rfl (lv_at hl 0 rfl) ?_
    refine va_get (D := D) (ci := 3) (v := .int 1) (C := RX3) (T := TX3) (N := 15) hx hb hts inX3_play_X3 hown hK hP 0 rfl rfl 12 (by decide) (hts (.fieldLink RX3 41 "ArchivistTricksModel" "thrown" "I") (by decide +kernel)) (fun _ h9 => h9) rfl dX3_play_29 ?_
    refine lv_if_eq (tgt := 37) hx hb dX3_play_32 (by decide) (fun c_ => absurd c_ (by decide)) (fun _ => ?_)
    refine lv_iconst (v := 0) hx hb dX3_play_35 (by decide) ?_
    exact jw_iret hx hb hr hlocks hK hP hD hS dX3_play_36 (by  simp only [j_X3_play, if_pos c_1]) (by  simp only [j_X3_play_uplace, j_X3_play_upts, j_X3_play_utks, j_X3_play_uglv, j_X3_play_uwin, j_X3_play_udrawn, j_X3_play_uon, j_X3_play_uturn, j_X3_play_uled, j_X3_play_uthr, if_pos c_1])

abbrev rX3_putOnGloves : Room := { frames := 0, cells := 0, slots := 0, locals := 0 }
def j_X3_putOnGloves (uglv : Nat → Int32) (uon : Int32) (uturn : Int32) : Int32 := (if uon = 0 then 0 else (if uglv (uturn).toNatClampNeg = 0 then uturn else 0))
def j_X3_putOnGloves_uglv (uglv : Nat → Int32) (uon : Int32) (uturn : Int32) : Nat → Int32 := (if uon = 0 then uglv else (if uglv (uturn).toNatClampNeg = 0 then upd uglv uturn.toNatClampNeg (1 : Int32) else uglv))
def j_X3_putOnGloves_uthr (uglv : Nat → Int32) (uon : Int32) (uturn : Int32) : Int32 := (if uon = 0 then 1 else (if uglv (uturn).toNatClampNeg = 0 then 0 else 1))
theorem inX3_putOnGloves_X3 : ∀ w ∈ u_ws RX3 TX3 15, w ∈ wsX3_putOnGloves := by decide +kernel
set_option maxRecDepth 100000 in
set_option maxHeartbeats 8000000 in
theorem c_X3_putOnGloves {l : Launch} {D : va_G} (b0 : Nat) (bP : Nat) (bR : Nat) (bS : Nat) (bT : Nat) (bG : Nat) (bW : Nat) (bH : Nat) (bO : Nat) (cP : ClassId) (cR : ClassId) (cS : ClassId) (cT : ClassId) (cG : ClassId) (cW : ClassId) (cH : ClassId) (cO : ClassId) (uplace : Nat → Int32) (urow : Nat → Int32) (upts : Nat → Int32) (utks : Nat → Int32) (uglv : Nat → Int32) (uwin : Nat → Int32) (uheld : Nat → Int32) (utab : Nat → Int32) (udrawn : Int32) (udealt : Int32) (uon : Int32) (uturn : Int32) (uled : Int32) (utr : Int32) (uthr : Int32) (ht : uturn = 0 ∨ uturn = 1) : jWi l yX3_putOnGloves wsX3_putOnGloves rX3_putOnGloves D [.ref b0] (jM b0 bP bR bS bT bG bW bH bO cP cR cS cT cG cW cH cO uplace urow upts utks uglv uwin uheld utab udrawn udealt uon uturn uled utr uthr) [(cP, .int), (cR, .int), (cS, .int), (cT, .int), (cG, .int), (cW, .int), (cH, .int), (cO, .int)] (j_X3_putOnGloves uglv uon uturn) (jM b0 bP bR bS bT bG bW bH bO cP cR cS cT cG cW cH cO uplace urow upts utks (j_X3_putOnGloves_uglv uglv uon uturn) uwin uheld utab udrawn udealt uon uturn uled utr (j_X3_putOnGloves_uthr uglv uon uturn)) := by
  refine jW_of (QQ := fun A => (jQi D (j_X3_putOnGloves uglv uon uturn) (jM b0 bP bR bS bT bG bW bH bO cP cR cS cT cG cW cH cO uplace urow upts utks (j_X3_putOnGloves_uglv uglv uon uturn) uwin uheld utab udrawn udealt uon uturn uled utr (j_X3_putOnGloves_uthr uglv uon uturn)) [(cP, .int), (cR, .int), (cS, .int), (cT, .int), (cG, .int), (cW, .int), (cH, .int), (cO, .int)] A)) (cc := cX3_putOnGloves) (maxL := 1) (ret := (some .int)) (by decide) rfl (Nat.le_of_ble_eq_true rfl) ?_
  intro p e s m below meth c ls A S hr hlocks hini hP hK hN hD hS hA hl
  obtain ⟨hx, hb, hml, hown, hts⟩ := id S
  have hl : lv_has ls 1 [(0, .ref b0)] := hl
  refine lv_aload_n hx hb dX3_putOnGloves_0 rfl (lv_at hl 0 rfl) ?_
  refine lv_aload_n hx hb dX3_putOnGloves_1 rfl (lv_at hl 0 rfl) ?_
  refine va_get (D := D) (ci := 3) (v := .int uon) (C := RX3) (T := TX3) (N := 15) hx hb hts inX3_putOnGloves_X3 hown hK hP 0 rfl rfl 4 (by decide) (hts (.fieldLink RX3 72 "ArchivistTricksModel" "isOn" "Z") (by decide +kernel)) (fun _ h9 => h9) rfl dX3_putOnGloves_2 ?_
  refine lv_if_eq (tgt := 24) hx hb dX3_putOnGloves_5 (by decide) (fun c_1 => ?_) (fun c_1 => ?_)
  · skip
    refine lv_iconst (v := 1) hx hb dX3_putOnGloves_24 (by decide) ?_
    refine va_put (D := D) (ci := 3) (v := .int 1) (ty := .int) (C := RX3) (T := TX3) (N := 15) hx hb hts inX3_putOnGloves_X3 tyX3 tyX3_ok nmX3 hown hK hP hD hS 0 rfl rfl 12 (by decide) (hts (.fieldLink RX3 41 "ArchivistTricksModel" "thrown" "I") (by decide +kernel)) (fun _ h9 => h9) rfl (by decide +kernel) rfl rfl (Nat.le_of_ble_eq_true rfl) dX3_putOnGloves_25 (fun H locs hP hD hS => ?_)
    have hP : va_P D vwCl [(b0, .inr (3, [.ref bP, .ref bR, .int udrawn, .int udealt, .int uon, .int uturn, .int uled, .int utr, .ref bS, .ref bT, .ref bG, .ref bW, .int 1, .ref bH, .ref bO])), (bP, .inl (cP, 42, .inl uplace)), (bR, .inl (cR, 42, .inl urow)), (bS, .inl (cS, 2, .inl upts)), (bT, .inl (cT, 2, .inl utks)), (bG, .inl (cG, 2, .inl uglv)), (bW, .inl (cW, 2, .inl uwin)), (bH, .inl (cH, 12, .inl uheld)), (bO, .inl (cO, 8192, .inl utab))] H := hP
    have hD : va_D A [(b0, .inr (3, [.ref bP, .ref bR, .int udrawn, .int udealt, .int uon, .int uturn, .int uled, .int utr, .ref bS, .ref bT, .ref bG, .ref bW, .int 1, .ref bH, .ref bO])), (bP, .inl (cP, 42, .inl uplace)), (bR, .inl (cR, 42, .inl urow)), (bS, .inl (cS, 2, .inl upts)), (bT, .inl (cT, 2, .inl utks)), (bG, .inl (cG, 2, .inl uglv)), (bW, .inl (cW, 2, .inl uwin)), (bH, .inl (cH, 12, .inl uheld)), (bO, .inl (cO, 8192, .inl utab))] := hD
    refine lv_aload_n hx hb dX3_putOnGloves_28 rfl (lv_at hl 0 rfl) ?_
    refine va_get (D := D) (ci := 3) (v := .int 1) (C := RX3) (T := TX3) (N := 15) hx hb hts inX3_putOnGloves_X3 hown hK hP 0 rfl rfl 12 (by decide) (hts (.fieldLink RX3 41 "ArchivistTricksModel" "thrown" "I") (by decide +kernel)) (fun _ h9 => h9) rfl dX3_putOnGloves_29 ?_
    refine lv_if_eq (tgt := 37) hx hb dX3_putOnGloves_32 (by decide) (fun c_ => absurd c_ (by decide)) (fun _ => ?_)
    refine lv_iconst (v := 0) hx hb dX3_putOnGloves_35 (by decide) ?_
    exact jw_iret hx hb hr hlocks hK hP hD hS dX3_putOnGloves_36 (by  simp only [j_X3_putOnGloves, if_pos c_1]) (by  simp only [j_X3_putOnGloves_uglv, j_X3_putOnGloves_uthr, if_pos c_1])
  · skip
    refine lv_aload_n hx hb dX3_putOnGloves_8 rfl (lv_at hl 0 rfl) ?_
    refine va_get (D := D) (ci := 3) (v := .ref bG) (C := RX3) (T := TX3) (N := 15) hx hb hts inX3_putOnGloves_X3 hown hK hP 0 rfl rfl 10 (by decide) (hts (.fieldLink RX3 29 "ArchivistTricksModel" "gloves" "[I") (by decide +kernel)) (fun _ h9 => h9) rfl dX3_putOnGloves_9 ?_
    refine lv_aload_n hx hb dX3_putOnGloves_12 rfl (lv_at hl 0 rfl) ?_
    refine va_get (D := D) (ci := 3) (v := .int uturn) (C := RX3) (T := TX3) (N := 15) hx hb hts inX3_putOnGloves_X3 hown hK hP 0 rfl rfl 5 (by decide) (hts (.fieldLink RX3 69 "ArchivistTricksModel" "turn" "I") (by decide +kernel)) (fun _ h9 => h9) rfl dX3_putOnGloves_13 ?_
    refine va_iald hx hb hK hP 5 4 rfl rfl (i := uturn) (jx_in2 ht) dX3_putOnGloves_16 ?_
    refine lv_if_ne (tgt := 24) hx hb dX3_putOnGloves_17 (by decide) (fun c_2 => ?_) (fun c_2 => ?_)
    · skip
      refine lv_iconst (v := 1) hx hb dX3_putOnGloves_24 (by decide) ?_
      refine va_put (D := D) (ci := 3) (v := .int 1) (ty := .int) (C := RX3) (T := TX3) (N := 15) hx hb hts inX3_putOnGloves_X3 tyX3 tyX3_ok nmX3 hown hK hP hD hS 0 rfl rfl 12 (by decide) (hts (.fieldLink RX3 41 "ArchivistTricksModel" "thrown" "I") (by decide +kernel)) (fun _ h9 => h9) rfl (by decide +kernel) rfl rfl (Nat.le_of_ble_eq_true rfl) dX3_putOnGloves_25 (fun H locs hP hD hS => ?_)
      have hP : va_P D vwCl [(b0, .inr (3, [.ref bP, .ref bR, .int udrawn, .int udealt, .int uon, .int uturn, .int uled, .int utr, .ref bS, .ref bT, .ref bG, .ref bW, .int 1, .ref bH, .ref bO])), (bP, .inl (cP, 42, .inl uplace)), (bR, .inl (cR, 42, .inl urow)), (bS, .inl (cS, 2, .inl upts)), (bT, .inl (cT, 2, .inl utks)), (bG, .inl (cG, 2, .inl uglv)), (bW, .inl (cW, 2, .inl uwin)), (bH, .inl (cH, 12, .inl uheld)), (bO, .inl (cO, 8192, .inl utab))] H := hP
      have hD : va_D A [(b0, .inr (3, [.ref bP, .ref bR, .int udrawn, .int udealt, .int uon, .int uturn, .int uled, .int utr, .ref bS, .ref bT, .ref bG, .ref bW, .int 1, .ref bH, .ref bO])), (bP, .inl (cP, 42, .inl uplace)), (bR, .inl (cR, 42, .inl urow)), (bS, .inl (cS, 2, .inl upts)), (bT, .inl (cT, 2, .inl utks)), (bG, .inl (cG, 2, .inl uglv)), (bW, .inl (cW, 2, .inl uwin)), (bH, .inl (cH, 12, .inl uheld)), (bO, .inl (cO, 8192, .inl utab))] := hD
      refine lv_aload_n hx hb dX3_putOnGloves_28 rfl (lv_at hl 0 rfl) ?_
      refine va_get (D := D) (ci := 3) (v := .int 1) (C := RX3) (T := TX3) (N := 15) hx hb hts inX3_putOnGloves_X3 hown hK hP 0 rfl rfl 12 (by decide) (hts (.fieldLink RX3 41 "ArchivistTricksModel" "thrown" "I") (by decide +kernel)) (fun _ h9 => h9) rfl dX3_putOnGloves_29 ?_
      refine lv_if_eq (tgt := 37) hx hb dX3_putOnGloves_32 (by decide) (fun c_ => absurd c_ (by decide)) (fun _ => ?_)
      refine lv_iconst (v := 0) hx hb dX3_putOnGloves_35 (by decide) ?_
      exact jw_iret hx hb hr hlocks hK hP hD hS dX3_putOnGloves_36 (by  simp only [j_X3_putOnGloves, if_neg c_1, if_neg c_2]) (by  simp only [j_X3_putOnGloves_uglv, j_X3_putOnGloves_uthr, if_neg c_1, if_neg c_2])
    · skip
      refine lv_iconst (v := 0) hx hb dX3_putOnGloves_20 (by decide) ?_
      refine lv_goto (tgt := 25) hx hb dX3_putOnGloves_21 (by decide) ?_
      refine va_put (D := D) (ci := 3) (v := .int 0) (ty := .int) (C := RX3) (T := TX3) (N := 15) hx hb hts inX3_putOnGloves_X3 tyX3 tyX3_ok nmX3 hown hK hP hD hS 0 rfl rfl 12 (by decide) (hts (.fieldLink RX3 41 "ArchivistTricksModel" "thrown" "I") (by decide +kernel)) (fun _ h9 => h9) rfl (by decide +kernel) rfl rfl (Nat.le_of_ble_eq_true rfl) dX3_putOnGloves_25 (fun H locs hP hD hS => ?_)
      have hP : va_P D vwCl [(b0, .inr (3, [.ref bP, .ref bR, .int udrawn, .int udealt, .int uon, .int uturn, .int uled, .int utr, .ref bS, .ref bT, .ref bG, .ref bW, .int 0, .ref bH, .ref bO])), (bP, .inl (cP, 42, .inl uplace)), (bR, .inl (cR, 42, .inl urow)), (bS, .inl (cS, 2, .inl upts)), (bT, .inl (cT, 2, .inl utks)), (bG, .inl (cG, 2, .inl uglv)), (bW, .inl (cW, 2, .inl uwin)), (bH, .inl (cH, 12, .inl uheld)), (bO, .inl (cO, 8192, .inl utab))] H := hP
      have hD : va_D A [(b0, .inr (3, [.ref bP, .ref bR, .int udrawn, .int udealt, .int uon, .int uturn, .int uled, .int utr, .ref bS, .ref bT, .ref bG, .ref bW, .int 0, .ref bH, .ref bO])), (bP, .inl (cP, 42, .inl uplace)), (bR, .inl (cR, 42, .inl urow)), (bS, .inl (cS, 2, .inl upts)), (bT, .inl (cT, 2, .inl utks)), (bG, .inl (cG, 2, .inl uglv)), (bW, .inl (cW, 2, .inl uwin)), (bH, .inl (cH, 12, .inl uheld)), (bO, .inl (cO, 8192, .inl utab))] := hD
      refine lv_aload_n hx hb dX3_putOnGloves_28 rfl (lv_at hl 0 rfl) ?_
      refine va_get (D := D) (ci := 3) (v := .int 0) (C := RX3) (T := TX3) (N := 15) hx hb hts inX3_putOnGloves_X3 hown hK hP 0 rfl rfl 12 (by decide) (hts (.fieldLink RX3 41 "ArchivistTricksModel" "thrown" "I") (by decide +kernel)) (fun _ h9 => h9) rfl dX3_putOnGloves_29 ?_
      refine lv_if_eq (tgt := 37) hx hb dX3_putOnGloves_32 (by decide) (fun _ => ?_) (fun c_ => absurd (by decide) c_)
      refine lv_aload_n hx hb dX3_putOnGloves_37 rfl (lv_at hl 0 rfl) ?_
      refine va_get (D := D) (ci := 3) (v := .ref bG) (C := RX3) (T := TX3) (N := 15) hx hb hts inX3_putOnGloves_X3 hown hK hP 0 rfl rfl 10 (by decide) (hts (.fieldLink RX3 29 "ArchivistTricksModel" "gloves" "[I") (by decide +kernel)) (fun _ h9 => h9) rfl dX3_putOnGloves_38 ?_
      refine lv_aload_n hx hb dX3_putOnGloves_41 rfl (lv_at hl 0 rfl) ?_
      refine va_get (D := D) (ci := 3) (v := .int uturn) (C := RX3) (T := TX3) (N := 15) hx hb hts inX3_putOnGloves_X3 hown hK hP 0 rfl rfl 5 (by decide) (hts (.fieldLink RX3 69 "ArchivistTricksModel" "turn" "I") (by decide +kernel)) (fun _ h9 => h9) rfl dX3_putOnGloves_42 ?_
      refine lv_iconst (v := 1) hx hb dX3_putOnGloves_45 (by decide) ?_
      refine va_iast hx hb hK hP hD hS 5 4 rfl rfl (i := uturn) (jx_in2 ht) dX3_putOnGloves_46 (fun H locs hP hD hS => ?_)
      have hP : va_P D vwCl [(b0, .inr (3, [.ref bP, .ref bR, .int udrawn, .int udealt, .int uon, .int uturn, .int uled, .int utr, .ref bS, .ref bT, .ref bG, .ref bW, .int 0, .ref bH, .ref bO])), (bP, .inl (cP, 42, .inl uplace)), (bR, .inl (cR, 42, .inl urow)), (bS, .inl (cS, 2, .inl upts)), (bT, .inl (cT, 2, .inl utks)), (bG, .inl (cG, 2, .inl (upd uglv uturn.toNatClampNeg (1 : Int32)))), (bW, .inl (cW, 2, .inl uwin)), (bH, .inl (cH, 12, .inl uheld)), (bO, .inl (cO, 8192, .inl utab))] H := hP
      have hD : va_D A [(b0, .inr (3, [.ref bP, .ref bR, .int udrawn, .int udealt, .int uon, .int uturn, .int uled, .int utr, .ref bS, .ref bT, .ref bG, .ref bW, .int 0, .ref bH, .ref bO])), (bP, .inl (cP, 42, .inl uplace)), (bR, .inl (cR, 42, .inl urow)), (bS, .inl (cS, 2, .inl upts)), (bT, .inl (cT, 2, .inl utks)), (bG, .inl (cG, 2, .inl (upd uglv uturn.toNatClampNeg (1 : Int32)))), (bW, .inl (cW, 2, .inl uwin)), (bH, .inl (cH, 12, .inl uheld)), (bO, .inl (cO, 8192, .inl utab))] := hD
      refine lv_aload_n hx hb dX3_putOnGloves_47 rfl (lv_at hl 0 rfl) ?_
      refine va_get (D := D) (ci := 3) (v := .int uturn) (C := RX3) (T := TX3) (N := 15) hx hb hts inX3_putOnGloves_X3 hown hK hP 0 rfl rfl 5 (by decide) (hts (.fieldLink RX3 69 "ArchivistTricksModel" "turn" "I") (by decide +kernel)) (fun _ h9 => h9) rfl dX3_putOnGloves_48 ?_
      exact jw_iret hx hb hr hlocks hK hP hD hS dX3_putOnGloves_51 (by  simp only [j_X3_putOnGloves, if_neg c_1, if_pos c_2]) (by  simp only [j_X3_putOnGloves_uglv, j_X3_putOnGloves_uthr, if_neg c_1, if_pos c_2])

abbrev rX3_whyNot : Room := { frames := 4, cells := 0, slots := 0, locals := 86 }
def j_X3_whyNot (uplace : Nat → Int32) (udrawn : Int32) (udealt : Int32) (uon : Int32) (uturn : Int32) (uled : Int32) (utr : Int32) (x0 : Int32) : Int32 := (if j_X3_isCard x0 = 0 then 0 else j_X3_why uplace udrawn udealt uon uturn uled utr x0)
def j_X3_whyNot_uthr (x0 : Int32) : Int32 := (if j_X3_isCard x0 = 0 then 1 else 0)
theorem inX3_whyNot_X3 : ∀ w ∈ u_ws RX3 TX3 15, w ∈ wsX3_whyNot := by decide +kernel
set_option maxRecDepth 100000 in
set_option maxHeartbeats 8000000 in
theorem c_X3_whyNot {l : Launch} {D : va_G} (b0 : Nat) (bP : Nat) (bR : Nat) (bS : Nat) (bT : Nat) (bG : Nat) (bW : Nat) (bH : Nat) (bO : Nat) (cP : ClassId) (cR : ClassId) (cS : ClassId) (cT : ClassId) (cG : ClassId) (cW : ClassId) (cH : ClassId) (cO : ClassId) (uplace : Nat → Int32) (urow : Nat → Int32) (upts : Nat → Int32) (utks : Nat → Int32) (uglv : Nat → Int32) (uwin : Nat → Int32) (uheld : Nat → Int32) (utab : Nat → Int32) (udrawn : Int32) (udealt : Int32) (uon : Int32) (uturn : Int32) (uled : Int32) (utr : Int32) (uthr : Int32) (x0 : Int32) : jWi l yX3_whyNot wsX3_whyNot rX3_whyNot D [.ref b0, .int x0] (jM b0 bP bR bS bT bG bW bH bO cP cR cS cT cG cW cH cO uplace urow upts utks uglv uwin uheld utab udrawn udealt uon uturn uled utr uthr) [(cP, .int), (cR, .int), (cS, .int), (cT, .int), (cG, .int), (cW, .int), (cH, .int), (cO, .int)] (j_X3_whyNot uplace udrawn udealt uon uturn uled utr x0) (jM b0 bP bR bS bT bG bW bH bO cP cR cS cT cG cW cH cO uplace urow upts utks uglv uwin uheld utab udrawn udealt uon uturn uled utr (j_X3_whyNot_uthr x0)) := by
  refine jW_of (QQ := fun A => (jQi D (j_X3_whyNot uplace udrawn udealt uon uturn uled utr x0) (jM b0 bP bR bS bT bG bW bH bO cP cR cS cT cG cW cH cO uplace urow upts utks uglv uwin uheld utab udrawn udealt uon uturn uled utr (j_X3_whyNot_uthr x0)) [(cP, .int), (cR, .int), (cS, .int), (cT, .int), (cG, .int), (cW, .int), (cH, .int), (cO, .int)] A)) (cc := cX3_whyNot) (maxL := 2) (ret := (some .int)) (by decide) rfl (Nat.le_of_ble_eq_true rfl) ?_
  intro p e s m below meth c ls A S hr hlocks hini hP hK hN hD hS hA hl
  obtain ⟨hx, hb, hml, hown, hts⟩ := id S
  have hl : lv_has ls 2 [(0, .ref b0), (1, .int x0)] := hl
  refine lv_aload_n hx hb dX3_whyNot_0 rfl (lv_at hl 0 rfl) ?_
  refine lv_iload_n hx hb dX3_whyNot_1 rfl (lv_at hl 1 rfl) ?_
  refine jr_callS (n := 1) (As := [.int x0]) (rest := [.ref b0]) S (c_X3_isCard x0) gX3_whyNot_X3_isCard rfl (by decide +kernel) rfl ⟨⟨rfl, rfl⟩, ⟨Nat.le_of_ble_eq_true rfl, Nat.le_of_ble_eq_true rfl⟩, Nat.le_of_ble_eq_true rfl, Nat.le_of_ble_eq_true rfl⟩ hP hK hN [] [] rfl rfl (lv_nil hl) rfl (Nat.le_of_ble_eq_true rfl) dX3_whyNot_2 ?_
  refine lv_if_eq (tgt := 12) hx hb dX3_whyNot_5 (by decide) (fun c_1 => ?_) (fun c_1 => ?_)
  · skip
    refine lv_iconst (v := 1) hx hb dX3_whyNot_12 (by decide) ?_
    refine va_put (D := D) (ci := 3) (v := .int 1) (ty := .int) (C := RX3) (T := TX3) (N := 15) hx hb hts inX3_whyNot_X3 tyX3 tyX3_ok nmX3 hown hK hP hD hS 0 rfl rfl 12 (by decide) (hts (.fieldLink RX3 41 "ArchivistTricksModel" "thrown" "I") (by decide +kernel)) (fun _ h9 => h9) rfl (by decide +kernel) rfl rfl (Nat.le_of_ble_eq_true rfl) dX3_whyNot_13 (fun H locs hP hD hS => ?_)
    have hP : va_P D vwCl [(b0, .inr (3, [.ref bP, .ref bR, .int udrawn, .int udealt, .int uon, .int uturn, .int uled, .int utr, .ref bS, .ref bT, .ref bG, .ref bW, .int 1, .ref bH, .ref bO])), (bP, .inl (cP, 42, .inl uplace)), (bR, .inl (cR, 42, .inl urow)), (bS, .inl (cS, 2, .inl upts)), (bT, .inl (cT, 2, .inl utks)), (bG, .inl (cG, 2, .inl uglv)), (bW, .inl (cW, 2, .inl uwin)), (bH, .inl (cH, 12, .inl uheld)), (bO, .inl (cO, 8192, .inl utab))] H := hP
    have hD : va_D A [(b0, .inr (3, [.ref bP, .ref bR, .int udrawn, .int udealt, .int uon, .int uturn, .int uled, .int utr, .ref bS, .ref bT, .ref bG, .ref bW, .int 1, .ref bH, .ref bO])), (bP, .inl (cP, 42, .inl uplace)), (bR, .inl (cR, 42, .inl urow)), (bS, .inl (cS, 2, .inl upts)), (bT, .inl (cT, 2, .inl utks)), (bG, .inl (cG, 2, .inl uglv)), (bW, .inl (cW, 2, .inl uwin)), (bH, .inl (cH, 12, .inl uheld)), (bO, .inl (cO, 8192, .inl utab))] := hD
    refine lv_aload_n hx hb dX3_whyNot_16 rfl (lv_at hl 0 rfl) ?_
    refine va_get (D := D) (ci := 3) (v := .int 1) (C := RX3) (T := TX3) (N := 15) hx hb hts inX3_whyNot_X3 hown hK hP 0 rfl rfl 12 (by decide) (hts (.fieldLink RX3 41 "ArchivistTricksModel" "thrown" "I") (by decide +kernel)) (fun _ h9 => h9) rfl dX3_whyNot_17 ?_
    refine lv_if_ne (tgt := 31) hx hb dX3_whyNot_20 (by decide) (fun _ => ?_) (fun c_ => absurd c_ (by decide))
    refine lv_iconst (v := 0) hx hb dX3_whyNot_31 (by decide) ?_
    exact jw_iret hx hb hr hlocks hK hP hD hS dX3_whyNot_32 (by  simp only [j_X3_whyNot, if_pos c_1]) (by  simp only [j_X3_whyNot_uthr, if_pos c_1])
  · skip
    refine lv_iconst (v := 0) hx hb dX3_whyNot_8 (by decide) ?_
    refine lv_goto (tgt := 13) hx hb dX3_whyNot_9 (by decide) ?_
    refine va_put (D := D) (ci := 3) (v := .int 0) (ty := .int) (C := RX3) (T := TX3) (N := 15) hx hb hts inX3_whyNot_X3 tyX3 tyX3_ok nmX3 hown hK hP hD hS 0 rfl rfl 12 (by decide) (hts (.fieldLink RX3 41 "ArchivistTricksModel" "thrown" "I") (by decide +kernel)) (fun _ h9 => h9) rfl (by decide +kernel) rfl rfl (Nat.le_of_ble_eq_true rfl) dX3_whyNot_13 (fun H locs hP hD hS => ?_)
    have hP : va_P D vwCl [(b0, .inr (3, [.ref bP, .ref bR, .int udrawn, .int udealt, .int uon, .int uturn, .int uled, .int utr, .ref bS, .ref bT, .ref bG, .ref bW, .int 0, .ref bH, .ref bO])), (bP, .inl (cP, 42, .inl uplace)), (bR, .inl (cR, 42, .inl urow)), (bS, .inl (cS, 2, .inl upts)), (bT, .inl (cT, 2, .inl utks)), (bG, .inl (cG, 2, .inl uglv)), (bW, .inl (cW, 2, .inl uwin)), (bH, .inl (cH, 12, .inl uheld)), (bO, .inl (cO, 8192, .inl utab))] H := hP
    have hD : va_D A [(b0, .inr (3, [.ref bP, .ref bR, .int udrawn, .int udealt, .int uon, .int uturn, .int uled, .int utr, .ref bS, .ref bT, .ref bG, .ref bW, .int 0, .ref bH, .ref bO])), (bP, .inl (cP, 42, .inl uplace)), (bR, .inl (cR, 42, .inl urow)), (bS, .inl (cS, 2, .inl upts)), (bT, .inl (cT, 2, .inl utks)), (bG, .inl (cG, 2, .inl uglv)), (bW, .inl (cW, 2, .inl uwin)), (bH, .inl (cH, 12, .inl uheld)), (bO, .inl (cO, 8192, .inl utab))] := hD
    refine lv_aload_n hx hb dX3_whyNot_16 rfl (lv_at hl 0 rfl) ?_
    refine va_get (D := D) (ci := 3) (v := .int 0) (C := RX3) (T := TX3) (N := 15) hx hb hts inX3_whyNot_X3 hown hK hP 0 rfl rfl 12 (by decide) (hts (.fieldLink RX3 41 "ArchivistTricksModel" "thrown" "I") (by decide +kernel)) (fun _ h9 => h9) rfl dX3_whyNot_17 ?_
    refine lv_if_ne (tgt := 31) hx hb dX3_whyNot_20 (by decide) (fun c_ => absurd (by decide) c_) (fun _ => ?_)
    refine lv_aload_n hx hb dX3_whyNot_23 rfl (lv_at hl 0 rfl) ?_
    refine lv_iload_n hx hb dX3_whyNot_24 rfl (lv_at hl 1 rfl) ?_
    refine jr_callV (n := 1) (C := RX3) (As := [.int x0]) (rest := []) S (c_X3_why b0 bP bR bS bT bG bW bH bO cP cR cS cT cG cW cH cO uplace urow upts utks uglv uwin uheld utab udrawn udealt uon uturn uled utr 0 x0 (jx_card c_1)) gX3_whyNot_X3_why rfl (by decide +kernel) rfl ⟨⟨rfl, rfl⟩, ⟨Nat.le_of_ble_eq_true rfl, Nat.le_of_ble_eq_true rfl⟩, Nat.le_of_ble_eq_true rfl, Nat.le_of_ble_eq_true rfl⟩ hP hK hN [0, 1, 2, 3, 4, 5, 6, 7, 8] [0, 1, 2, 3, 4, 5, 6, 7] rfl rfl 0 3 rfl rfl rfl (lv_nil hl) rfl (Nat.le_of_ble_eq_true rfl) dX3_whyNot_25 ?_
    refine lv_goto (tgt := 32) hx hb dX3_whyNot_28 (by decide) ?_
    exact jw_iret hx hb hr hlocks hK hP hD hS dX3_whyNot_32 (by  simp only [j_X3_whyNot, if_neg c_1]) (by  simp only [j_X3_whyNot_uthr, if_neg c_1])

abbrev rX3_isPlaying : Room := { frames := 0, cells := 0, slots := 0, locals := 0 }
def j_X3_isPlaying (uon : Int32) : Int32 := uon
def j_X3_isPlaying_uthr  : Int32 := 0
theorem inX3_isPlaying_X3 : ∀ w ∈ u_ws RX3 TX3 15, w ∈ wsX3_isPlaying := by decide +kernel
set_option maxRecDepth 100000 in
set_option maxHeartbeats 8000000 in
theorem c_X3_isPlaying {l : Launch} {D : va_G} (b0 : Nat) (bP : Nat) (bR : Nat) (bS : Nat) (bT : Nat) (bG : Nat) (bW : Nat) (bH : Nat) (bO : Nat) (cP : ClassId) (cR : ClassId) (cS : ClassId) (cT : ClassId) (cG : ClassId) (cW : ClassId) (cH : ClassId) (cO : ClassId) (uplace : Nat → Int32) (urow : Nat → Int32) (upts : Nat → Int32) (utks : Nat → Int32) (uglv : Nat → Int32) (uwin : Nat → Int32) (uheld : Nat → Int32) (utab : Nat → Int32) (udrawn : Int32) (udealt : Int32) (uon : Int32) (uturn : Int32) (uled : Int32) (utr : Int32) (uthr : Int32) (hon : uon = 0 ∨ uon = 1) : jWi l yX3_isPlaying wsX3_isPlaying rX3_isPlaying D [.ref b0] (jM b0 bP bR bS bT bG bW bH bO cP cR cS cT cG cW cH cO uplace urow upts utks uglv uwin uheld utab udrawn udealt uon uturn uled utr uthr) [(cP, .int), (cR, .int), (cS, .int), (cT, .int), (cG, .int), (cW, .int), (cH, .int), (cO, .int)] (j_X3_isPlaying uon) (jM b0 bP bR bS bT bG bW bH bO cP cR cS cT cG cW cH cO uplace urow upts utks uglv uwin uheld utab udrawn udealt uon uturn uled utr (j_X3_isPlaying_uthr)) := by
  refine jW_of (QQ := fun A => (jQi D (j_X3_isPlaying uon) (jM b0 bP bR bS bT bG bW bH bO cP cR cS cT cG cW cH cO uplace urow upts utks uglv uwin uheld utab udrawn udealt uon uturn uled utr (j_X3_isPlaying_uthr)) [(cP, .int), (cR, .int), (cS, .int), (cT, .int), (cG, .int), (cW, .int), (cH, .int), (cO, .int)] A)) (cc := cX3_isPlaying) (maxL := 1) (ret := (some .boolean)) (by decide) rfl (Nat.le_of_ble_eq_true rfl) ?_
  intro p e s m below meth c ls A S hr hlocks hini hP hK hN hD hS hA hl
  obtain ⟨hx, hb, hml, hown, hts⟩ := id S
  have hl : lv_has ls 1 [(0, .ref b0)] := hl
  refine lv_aload_n hx hb dX3_isPlaying_0 rfl (lv_at hl 0 rfl) ?_
  refine lv_iconst (v := 0) hx hb dX3_isPlaying_1 (by decide) ?_
  refine va_put (D := D) (ci := 3) (v := .int 0) (ty := .int) (C := RX3) (T := TX3) (N := 15) hx hb hts inX3_isPlaying_X3 tyX3 tyX3_ok nmX3 hown hK hP hD hS 0 rfl rfl 12 (by decide) (hts (.fieldLink RX3 41 "ArchivistTricksModel" "thrown" "I") (by decide +kernel)) (fun _ h9 => h9) rfl (by decide +kernel) rfl rfl (Nat.le_of_ble_eq_true rfl) dX3_isPlaying_2 (fun H locs hP hD hS => ?_)
  have hP : va_P D vwCl [(b0, .inr (3, [.ref bP, .ref bR, .int udrawn, .int udealt, .int uon, .int uturn, .int uled, .int utr, .ref bS, .ref bT, .ref bG, .ref bW, .int 0, .ref bH, .ref bO])), (bP, .inl (cP, 42, .inl uplace)), (bR, .inl (cR, 42, .inl urow)), (bS, .inl (cS, 2, .inl upts)), (bT, .inl (cT, 2, .inl utks)), (bG, .inl (cG, 2, .inl uglv)), (bW, .inl (cW, 2, .inl uwin)), (bH, .inl (cH, 12, .inl uheld)), (bO, .inl (cO, 8192, .inl utab))] H := hP
  have hD : va_D A [(b0, .inr (3, [.ref bP, .ref bR, .int udrawn, .int udealt, .int uon, .int uturn, .int uled, .int utr, .ref bS, .ref bT, .ref bG, .ref bW, .int 0, .ref bH, .ref bO])), (bP, .inl (cP, 42, .inl uplace)), (bR, .inl (cR, 42, .inl urow)), (bS, .inl (cS, 2, .inl upts)), (bT, .inl (cT, 2, .inl utks)), (bG, .inl (cG, 2, .inl uglv)), (bW, .inl (cW, 2, .inl uwin)), (bH, .inl (cH, 12, .inl uheld)), (bO, .inl (cO, 8192, .inl utab))] := hD
  refine lv_aload_n hx hb dX3_isPlaying_5 rfl (lv_at hl 0 rfl) ?_
  refine va_get (D := D) (ci := 3) (v := .int uon) (C := RX3) (T := TX3) (N := 15) hx hb hts inX3_isPlaying_X3 hown hK hP 0 rfl rfl 4 (by decide) (hts (.fieldLink RX3 72 "ArchivistTricksModel" "isOn" "Z") (by decide +kernel)) (fun _ h9 => h9) rfl dX3_isPlaying_6 ?_
  exact jw_zret hx hb hr hlocks hK hP hD hS dX3_isPlaying_9 (jx_nar hon) (by  simp only [j_X3_isPlaying]) (by  simp only [j_X3_isPlaying_uthr])

abbrev rX3_turn : Room := { frames := 0, cells := 0, slots := 0, locals := 0 }
def j_X3_turn (uon : Int32) (uturn : Int32) : Int32 := (if uon = 0 then (-1) else uturn)
def j_X3_turn_uthr  : Int32 := 0
theorem inX3_turn_X3 : ∀ w ∈ u_ws RX3 TX3 15, w ∈ wsX3_turn := by decide +kernel
set_option maxRecDepth 100000 in
set_option maxHeartbeats 8000000 in
theorem c_X3_turn {l : Launch} {D : va_G} (b0 : Nat) (bP : Nat) (bR : Nat) (bS : Nat) (bT : Nat) (bG : Nat) (bW : Nat) (bH : Nat) (bO : Nat) (cP : ClassId) (cR : ClassId) (cS : ClassId) (cT : ClassId) (cG : ClassId) (cW : ClassId) (cH : ClassId) (cO : ClassId) (uplace : Nat → Int32) (urow : Nat → Int32) (upts : Nat → Int32) (utks : Nat → Int32) (uglv : Nat → Int32) (uwin : Nat → Int32) (uheld : Nat → Int32) (utab : Nat → Int32) (udrawn : Int32) (udealt : Int32) (uon : Int32) (uturn : Int32) (uled : Int32) (utr : Int32) (uthr : Int32) : jWi l yX3_turn wsX3_turn rX3_turn D [.ref b0] (jM b0 bP bR bS bT bG bW bH bO cP cR cS cT cG cW cH cO uplace urow upts utks uglv uwin uheld utab udrawn udealt uon uturn uled utr uthr) [(cP, .int), (cR, .int), (cS, .int), (cT, .int), (cG, .int), (cW, .int), (cH, .int), (cO, .int)] (j_X3_turn uon uturn) (jM b0 bP bR bS bT bG bW bH bO cP cR cS cT cG cW cH cO uplace urow upts utks uglv uwin uheld utab udrawn udealt uon uturn uled utr (j_X3_turn_uthr)) := by
  refine jW_of (QQ := fun A => (jQi D (j_X3_turn uon uturn) (jM b0 bP bR bS bT bG bW bH bO cP cR cS cT cG cW cH cO uplace urow upts utks uglv uwin uheld utab udrawn udealt uon uturn uled utr (j_X3_turn_uthr)) [(cP, .int), (cR, .int), (cS, .int), (cT, .int), (cG, .int), (cW, .int), (cH, .int), (cO, .int)] A)) (cc := cX3_turn) (maxL := 1) (ret := (some .int)) (by decide) rfl (Nat.le_of_ble_eq_true rfl) ?_
  intro p e s m below meth c ls A S hr hlocks hini hP hK hN hD hS hA hl
  obtain ⟨hx, hb, hml, hown, hts⟩ := id S
  have hl : lv_has ls 1 [(0, .ref b0)] := hl
  refine lv_aload_n hx hb dX3_turn_0 rfl (lv_at hl 0 rfl) ?_
  refine lv_iconst (v := 0) hx hb dX3_turn_1 (by decide) ?_
  refine va_put (D := D) (ci := 3) (v := .int 0) (ty := .int) (C := RX3) (T := TX3) (N := 15) hx hb hts inX3_turn_X3 tyX3 tyX3_ok nmX3 hown hK hP hD hS 0 rfl rfl 12 (by decide) (hts (.fieldLink RX3 41 "ArchivistTricksModel" "thrown" "I") (by decide +kernel)) (fun _ h9 => h9) rfl (by decide +kernel) rfl rfl (Nat.le_of_ble_eq_true rfl) dX3_turn_2 (fun H locs hP hD hS => ?_)
  have hP : va_P D vwCl [(b0, .inr (3, [.ref bP, .ref bR, .int udrawn, .int udealt, .int uon, .int uturn, .int uled, .int utr, .ref bS, .ref bT, .ref bG, .ref bW, .int 0, .ref bH, .ref bO])), (bP, .inl (cP, 42, .inl uplace)), (bR, .inl (cR, 42, .inl urow)), (bS, .inl (cS, 2, .inl upts)), (bT, .inl (cT, 2, .inl utks)), (bG, .inl (cG, 2, .inl uglv)), (bW, .inl (cW, 2, .inl uwin)), (bH, .inl (cH, 12, .inl uheld)), (bO, .inl (cO, 8192, .inl utab))] H := hP
  have hD : va_D A [(b0, .inr (3, [.ref bP, .ref bR, .int udrawn, .int udealt, .int uon, .int uturn, .int uled, .int utr, .ref bS, .ref bT, .ref bG, .ref bW, .int 0, .ref bH, .ref bO])), (bP, .inl (cP, 42, .inl uplace)), (bR, .inl (cR, 42, .inl urow)), (bS, .inl (cS, 2, .inl upts)), (bT, .inl (cT, 2, .inl utks)), (bG, .inl (cG, 2, .inl uglv)), (bW, .inl (cW, 2, .inl uwin)), (bH, .inl (cH, 12, .inl uheld)), (bO, .inl (cO, 8192, .inl utab))] := hD
  refine lv_aload_n hx hb dX3_turn_5 rfl (lv_at hl 0 rfl) ?_
  refine va_get (D := D) (ci := 3) (v := .int uon) (C := RX3) (T := TX3) (N := 15) hx hb hts inX3_turn_X3 hown hK hP 0 rfl rfl 4 (by decide) (hts (.fieldLink RX3 72 "ArchivistTricksModel" "isOn" "Z") (by decide +kernel)) (fun _ h9 => h9) rfl dX3_turn_6 ?_
  refine lv_if_eq (tgt := 19) hx hb dX3_turn_9 (by decide) (fun c_1 => ?_) (fun c_1 => ?_)
  · skip
    refine lv_iconst (v := (-1)) hx hb dX3_turn_19 (by decide) ?_
    exact jw_iret hx hb hr hlocks hK hP hD hS dX3_turn_20 (by  simp only [j_X3_turn, if_pos c_1]) (by  simp only [j_X3_turn_uthr, if_pos c_1])
  · skip
    refine lv_aload_n hx hb dX3_turn_12 rfl (lv_at hl 0 rfl) ?_
    refine va_get (D := D) (ci := 3) (v := .int uturn) (C := RX3) (T := TX3) (N := 15) hx hb hts inX3_turn_X3 hown hK hP 0 rfl rfl 5 (by decide) (hts (.fieldLink RX3 69 "ArchivistTricksModel" "turn" "I") (by decide +kernel)) (fun _ h9 => h9) rfl dX3_turn_13 ?_
    refine lv_goto (tgt := 20) hx hb dX3_turn_16 (by decide) ?_
    exact jw_iret hx hb hr hlocks hK hP hD hS dX3_turn_20 (by  simp only [j_X3_turn, if_neg c_1]) (by  simp only [j_X3_turn_uthr, if_neg c_1])

abbrev rX3_led : Room := { frames := 0, cells := 0, slots := 0, locals := 0 }
def j_X3_led (uled : Int32) : Int32 := uled
def j_X3_led_uthr  : Int32 := 0
theorem inX3_led_X3 : ∀ w ∈ u_ws RX3 TX3 15, w ∈ wsX3_led := by decide +kernel
set_option maxRecDepth 100000 in
set_option maxHeartbeats 8000000 in
theorem c_X3_led {l : Launch} {D : va_G} (b0 : Nat) (bP : Nat) (bR : Nat) (bS : Nat) (bT : Nat) (bG : Nat) (bW : Nat) (bH : Nat) (bO : Nat) (cP : ClassId) (cR : ClassId) (cS : ClassId) (cT : ClassId) (cG : ClassId) (cW : ClassId) (cH : ClassId) (cO : ClassId) (uplace : Nat → Int32) (urow : Nat → Int32) (upts : Nat → Int32) (utks : Nat → Int32) (uglv : Nat → Int32) (uwin : Nat → Int32) (uheld : Nat → Int32) (utab : Nat → Int32) (udrawn : Int32) (udealt : Int32) (uon : Int32) (uturn : Int32) (uled : Int32) (utr : Int32) (uthr : Int32) : jWi l yX3_led wsX3_led rX3_led D [.ref b0] (jM b0 bP bR bS bT bG bW bH bO cP cR cS cT cG cW cH cO uplace urow upts utks uglv uwin uheld utab udrawn udealt uon uturn uled utr uthr) [(cP, .int), (cR, .int), (cS, .int), (cT, .int), (cG, .int), (cW, .int), (cH, .int), (cO, .int)] (j_X3_led uled) (jM b0 bP bR bS bT bG bW bH bO cP cR cS cT cG cW cH cO uplace urow upts utks uglv uwin uheld utab udrawn udealt uon uturn uled utr (j_X3_led_uthr)) := by
  refine jW_of (QQ := fun A => (jQi D (j_X3_led uled) (jM b0 bP bR bS bT bG bW bH bO cP cR cS cT cG cW cH cO uplace urow upts utks uglv uwin uheld utab udrawn udealt uon uturn uled utr (j_X3_led_uthr)) [(cP, .int), (cR, .int), (cS, .int), (cT, .int), (cG, .int), (cW, .int), (cH, .int), (cO, .int)] A)) (cc := cX3_led) (maxL := 1) (ret := (some .int)) (by decide) rfl (Nat.le_of_ble_eq_true rfl) ?_
  intro p e s m below meth c ls A S hr hlocks hini hP hK hN hD hS hA hl
  obtain ⟨hx, hb, hml, hown, hts⟩ := id S
  have hl : lv_has ls 1 [(0, .ref b0)] := hl
  refine lv_aload_n hx hb dX3_led_0 rfl (lv_at hl 0 rfl) ?_
  refine lv_iconst (v := 0) hx hb dX3_led_1 (by decide) ?_
  refine va_put (D := D) (ci := 3) (v := .int 0) (ty := .int) (C := RX3) (T := TX3) (N := 15) hx hb hts inX3_led_X3 tyX3 tyX3_ok nmX3 hown hK hP hD hS 0 rfl rfl 12 (by decide) (hts (.fieldLink RX3 41 "ArchivistTricksModel" "thrown" "I") (by decide +kernel)) (fun _ h9 => h9) rfl (by decide +kernel) rfl rfl (Nat.le_of_ble_eq_true rfl) dX3_led_2 (fun H locs hP hD hS => ?_)
  have hP : va_P D vwCl [(b0, .inr (3, [.ref bP, .ref bR, .int udrawn, .int udealt, .int uon, .int uturn, .int uled, .int utr, .ref bS, .ref bT, .ref bG, .ref bW, .int 0, .ref bH, .ref bO])), (bP, .inl (cP, 42, .inl uplace)), (bR, .inl (cR, 42, .inl urow)), (bS, .inl (cS, 2, .inl upts)), (bT, .inl (cT, 2, .inl utks)), (bG, .inl (cG, 2, .inl uglv)), (bW, .inl (cW, 2, .inl uwin)), (bH, .inl (cH, 12, .inl uheld)), (bO, .inl (cO, 8192, .inl utab))] H := hP
  have hD : va_D A [(b0, .inr (3, [.ref bP, .ref bR, .int udrawn, .int udealt, .int uon, .int uturn, .int uled, .int utr, .ref bS, .ref bT, .ref bG, .ref bW, .int 0, .ref bH, .ref bO])), (bP, .inl (cP, 42, .inl uplace)), (bR, .inl (cR, 42, .inl urow)), (bS, .inl (cS, 2, .inl upts)), (bT, .inl (cT, 2, .inl utks)), (bG, .inl (cG, 2, .inl uglv)), (bW, .inl (cW, 2, .inl uwin)), (bH, .inl (cH, 12, .inl uheld)), (bO, .inl (cO, 8192, .inl utab))] := hD
  refine lv_aload_n hx hb dX3_led_5 rfl (lv_at hl 0 rfl) ?_
  refine va_get (D := D) (ci := 3) (v := .int uled) (C := RX3) (T := TX3) (N := 15) hx hb hts inX3_led_X3 hown hK hP 0 rfl rfl 6 (by decide) (hts (.fieldLink RX3 16 "ArchivistTricksModel" "ledCard" "I") (by decide +kernel)) (fun _ h9 => h9) rfl dX3_led_6 ?_
  exact jw_iret hx hb hr hlocks hK hP hD hS dX3_led_9 (by  simp only [j_X3_led]) (by  simp only [j_X3_led_uthr])

abbrev rX3_trumps : Room := { frames := 0, cells := 0, slots := 0, locals := 0 }
def j_X3_trumps (utr : Int32) : Int32 := utr
def j_X3_trumps_uthr  : Int32 := 0
theorem inX3_trumps_X3 : ∀ w ∈ u_ws RX3 TX3 15, w ∈ wsX3_trumps := by decide +kernel
set_option maxRecDepth 100000 in
set_option maxHeartbeats 8000000 in
theorem c_X3_trumps {l : Launch} {D : va_G} (b0 : Nat) (bP : Nat) (bR : Nat) (bS : Nat) (bT : Nat) (bG : Nat) (bW : Nat) (bH : Nat) (bO : Nat) (cP : ClassId) (cR : ClassId) (cS : ClassId) (cT : ClassId) (cG : ClassId) (cW : ClassId) (cH : ClassId) (cO : ClassId) (uplace : Nat → Int32) (urow : Nat → Int32) (upts : Nat → Int32) (utks : Nat → Int32) (uglv : Nat → Int32) (uwin : Nat → Int32) (uheld : Nat → Int32) (utab : Nat → Int32) (udrawn : Int32) (udealt : Int32) (uon : Int32) (uturn : Int32) (uled : Int32) (utr : Int32) (uthr : Int32) : jWi l yX3_trumps wsX3_trumps rX3_trumps D [.ref b0] (jM b0 bP bR bS bT bG bW bH bO cP cR cS cT cG cW cH cO uplace urow upts utks uglv uwin uheld utab udrawn udealt uon uturn uled utr uthr) [(cP, .int), (cR, .int), (cS, .int), (cT, .int), (cG, .int), (cW, .int), (cH, .int), (cO, .int)] (j_X3_trumps utr) (jM b0 bP bR bS bT bG bW bH bO cP cR cS cT cG cW cH cO uplace urow upts utks uglv uwin uheld utab udrawn udealt uon uturn uled utr (j_X3_trumps_uthr)) := by
  refine jW_of (QQ := fun A => (jQi D (j_X3_trumps utr) (jM b0 bP bR bS bT bG bW bH bO cP cR cS cT cG cW cH cO uplace urow upts utks uglv uwin uheld utab udrawn udealt uon uturn uled utr (j_X3_trumps_uthr)) [(cP, .int), (cR, .int), (cS, .int), (cT, .int), (cG, .int), (cW, .int), (cH, .int), (cO, .int)] A)) (cc := cX3_trumps) (maxL := 1) (ret := (some .int)) (by decide) rfl (Nat.le_of_ble_eq_true rfl) ?_
  intro p e s m below meth c ls A S hr hlocks hini hP hK hN hD hS hA hl
  obtain ⟨hx, hb, hml, hown, hts⟩ := id S
  have hl : lv_has ls 1 [(0, .ref b0)] := hl
  refine lv_aload_n hx hb dX3_trumps_0 rfl (lv_at hl 0 rfl) ?_
  refine lv_iconst (v := 0) hx hb dX3_trumps_1 (by decide) ?_
  refine va_put (D := D) (ci := 3) (v := .int 0) (ty := .int) (C := RX3) (T := TX3) (N := 15) hx hb hts inX3_trumps_X3 tyX3 tyX3_ok nmX3 hown hK hP hD hS 0 rfl rfl 12 (by decide) (hts (.fieldLink RX3 41 "ArchivistTricksModel" "thrown" "I") (by decide +kernel)) (fun _ h9 => h9) rfl (by decide +kernel) rfl rfl (Nat.le_of_ble_eq_true rfl) dX3_trumps_2 (fun H locs hP hD hS => ?_)
  have hP : va_P D vwCl [(b0, .inr (3, [.ref bP, .ref bR, .int udrawn, .int udealt, .int uon, .int uturn, .int uled, .int utr, .ref bS, .ref bT, .ref bG, .ref bW, .int 0, .ref bH, .ref bO])), (bP, .inl (cP, 42, .inl uplace)), (bR, .inl (cR, 42, .inl urow)), (bS, .inl (cS, 2, .inl upts)), (bT, .inl (cT, 2, .inl utks)), (bG, .inl (cG, 2, .inl uglv)), (bW, .inl (cW, 2, .inl uwin)), (bH, .inl (cH, 12, .inl uheld)), (bO, .inl (cO, 8192, .inl utab))] H := hP
  have hD : va_D A [(b0, .inr (3, [.ref bP, .ref bR, .int udrawn, .int udealt, .int uon, .int uturn, .int uled, .int utr, .ref bS, .ref bT, .ref bG, .ref bW, .int 0, .ref bH, .ref bO])), (bP, .inl (cP, 42, .inl uplace)), (bR, .inl (cR, 42, .inl urow)), (bS, .inl (cS, 2, .inl upts)), (bT, .inl (cT, 2, .inl utks)), (bG, .inl (cG, 2, .inl uglv)), (bW, .inl (cW, 2, .inl uwin)), (bH, .inl (cH, 12, .inl uheld)), (bO, .inl (cO, 8192, .inl utab))] := hD
  refine lv_aload_n hx hb dX3_trumps_5 rfl (lv_at hl 0 rfl) ?_
  refine va_get (D := D) (ci := 3) (v := .int utr) (C := RX3) (T := TX3) (N := 15) hx hb hts inX3_trumps_X3 hown hK hP 0 rfl rfl 7 (by decide) (hts (.fieldLink RX3 20 "ArchivistTricksModel" "trumps" "I") (by decide +kernel)) (fun _ h9 => h9) rfl dX3_trumps_6 ?_
  exact jw_iret hx hb hr hlocks hK hP hD hS dX3_trumps_9 (by  simp only [j_X3_trumps]) (by  simp only [j_X3_trumps_uthr])

abbrev rX3_pile : Room := { frames := 1, cells := 0, slots := 0, locals := 20 }
def j_X3_pile (udrawn : Int32) (udealt : Int32) : Int32 := j_X3_inPile udrawn udealt
def j_X3_pile_uthr  : Int32 := 0
theorem inX3_pile_X3 : ∀ w ∈ u_ws RX3 TX3 15, w ∈ wsX3_pile := by decide +kernel
set_option maxRecDepth 100000 in
set_option maxHeartbeats 8000000 in
theorem c_X3_pile {l : Launch} {D : va_G} (b0 : Nat) (bP : Nat) (bR : Nat) (bS : Nat) (bT : Nat) (bG : Nat) (bW : Nat) (bH : Nat) (bO : Nat) (cP : ClassId) (cR : ClassId) (cS : ClassId) (cT : ClassId) (cG : ClassId) (cW : ClassId) (cH : ClassId) (cO : ClassId) (uplace : Nat → Int32) (urow : Nat → Int32) (upts : Nat → Int32) (utks : Nat → Int32) (uglv : Nat → Int32) (uwin : Nat → Int32) (uheld : Nat → Int32) (utab : Nat → Int32) (udrawn : Int32) (udealt : Int32) (uon : Int32) (uturn : Int32) (uled : Int32) (utr : Int32) (uthr : Int32) : jWi l yX3_pile wsX3_pile rX3_pile D [.ref b0] (jM b0 bP bR bS bT bG bW bH bO cP cR cS cT cG cW cH cO uplace urow upts utks uglv uwin uheld utab udrawn udealt uon uturn uled utr uthr) [(cP, .int), (cR, .int), (cS, .int), (cT, .int), (cG, .int), (cW, .int), (cH, .int), (cO, .int)] (j_X3_pile udrawn udealt) (jM b0 bP bR bS bT bG bW bH bO cP cR cS cT cG cW cH cO uplace urow upts utks uglv uwin uheld utab udrawn udealt uon uturn uled utr (j_X3_pile_uthr)) := by
  refine jW_of (QQ := fun A => (jQi D (j_X3_pile udrawn udealt) (jM b0 bP bR bS bT bG bW bH bO cP cR cS cT cG cW cH cO uplace urow upts utks uglv uwin uheld utab udrawn udealt uon uturn uled utr (j_X3_pile_uthr)) [(cP, .int), (cR, .int), (cS, .int), (cT, .int), (cG, .int), (cW, .int), (cH, .int), (cO, .int)] A)) (cc := cX3_pile) (maxL := 1) (ret := (some .int)) (by decide) rfl (Nat.le_of_ble_eq_true rfl) ?_
  intro p e s m below meth c ls A S hr hlocks hini hP hK hN hD hS hA hl
  obtain ⟨hx, hb, hml, hown, hts⟩ := id S
  have hl : lv_has ls 1 [(0, .ref b0)] := hl
  refine lv_aload_n hx hb dX3_pile_0 rfl (lv_at hl 0 rfl) ?_
  refine lv_iconst (v := 0) hx hb dX3_pile_1 (by decide) ?_
  refine va_put (D := D) (ci := 3) (v := .int 0) (ty := .int) (C := RX3) (T := TX3) (N := 15) hx hb hts inX3_pile_X3 tyX3 tyX3_ok nmX3 hown hK hP hD hS 0 rfl rfl 12 (by decide) (hts (.fieldLink RX3 41 "ArchivistTricksModel" "thrown" "I") (by decide +kernel)) (fun _ h9 => h9) rfl (by decide +kernel) rfl rfl (Nat.le_of_ble_eq_true rfl) dX3_pile_2 (fun H locs hP hD hS => ?_)
  have hP : va_P D vwCl [(b0, .inr (3, [.ref bP, .ref bR, .int udrawn, .int udealt, .int uon, .int uturn, .int uled, .int utr, .ref bS, .ref bT, .ref bG, .ref bW, .int 0, .ref bH, .ref bO])), (bP, .inl (cP, 42, .inl uplace)), (bR, .inl (cR, 42, .inl urow)), (bS, .inl (cS, 2, .inl upts)), (bT, .inl (cT, 2, .inl utks)), (bG, .inl (cG, 2, .inl uglv)), (bW, .inl (cW, 2, .inl uwin)), (bH, .inl (cH, 12, .inl uheld)), (bO, .inl (cO, 8192, .inl utab))] H := hP
  have hD : va_D A [(b0, .inr (3, [.ref bP, .ref bR, .int udrawn, .int udealt, .int uon, .int uturn, .int uled, .int utr, .ref bS, .ref bT, .ref bG, .ref bW, .int 0, .ref bH, .ref bO])), (bP, .inl (cP, 42, .inl uplace)), (bR, .inl (cR, 42, .inl urow)), (bS, .inl (cS, 2, .inl upts)), (bT, .inl (cT, 2, .inl utks)), (bG, .inl (cG, 2, .inl uglv)), (bW, .inl (cW, 2, .inl uwin)), (bH, .inl (cH, 12, .inl uheld)), (bO, .inl (cO, 8192, .inl utab))] := hD
  refine lv_aload_n hx hb dX3_pile_5 rfl (lv_at hl 0 rfl) ?_
  refine jr_callV (n := 0) (C := RX3) (As := []) (rest := []) S (c_X3_inPile b0 bP bR bS bT bG bW bH bO cP cR cS cT cG cW cH cO uplace urow upts utks uglv uwin uheld utab udrawn udealt uon uturn uled utr 0) gX3_pile_X3_inPile rfl (by decide +kernel) rfl ⟨⟨rfl, rfl⟩, ⟨Nat.le_of_ble_eq_true rfl, Nat.le_of_ble_eq_true rfl⟩, Nat.le_of_ble_eq_true rfl, Nat.le_of_ble_eq_true rfl⟩ hP hK hN [0, 1, 2, 3, 4, 5, 6, 7, 8] [0, 1, 2, 3, 4, 5, 6, 7] rfl rfl 0 3 rfl rfl rfl (lv_nil hl) rfl (Nat.le_of_ble_eq_true rfl) dX3_pile_6 ?_
  exact jw_iret hx hb hr hlocks hK hP hD hS dX3_pile_9 (by  simp only [j_X3_pile]) (by  simp only [j_X3_pile_uthr])

abbrev rX3_cards : Room := { frames := 1, cells := 0, slots := 0, locals := 23 }
def j_X3_cards (uplace : Nat → Int32) (udealt : Int32) (x0 : Int32) : Int32 := (if j_X3_isArchivist x0 = 0 then 0 else j_X3_howMany uplace udealt x0)
def j_X3_cards_uthr (x0 : Int32) : Int32 := (if j_X3_isArchivist x0 = 0 then 1 else 0)
theorem inX3_cards_X3 : ∀ w ∈ u_ws RX3 TX3 15, w ∈ wsX3_cards := by decide +kernel
set_option maxRecDepth 100000 in
set_option maxHeartbeats 8000000 in
theorem c_X3_cards {l : Launch} {D : va_G} (b0 : Nat) (bP : Nat) (bR : Nat) (bS : Nat) (bT : Nat) (bG : Nat) (bW : Nat) (bH : Nat) (bO : Nat) (cP : ClassId) (cR : ClassId) (cS : ClassId) (cT : ClassId) (cG : ClassId) (cW : ClassId) (cH : ClassId) (cO : ClassId) (uplace : Nat → Int32) (urow : Nat → Int32) (upts : Nat → Int32) (utks : Nat → Int32) (uglv : Nat → Int32) (uwin : Nat → Int32) (uheld : Nat → Int32) (utab : Nat → Int32) (udrawn : Int32) (udealt : Int32) (uon : Int32) (uturn : Int32) (uled : Int32) (utr : Int32) (uthr : Int32) (x0 : Int32) : jWi l yX3_cards wsX3_cards rX3_cards D [.ref b0, .int x0] (jM b0 bP bR bS bT bG bW bH bO cP cR cS cT cG cW cH cO uplace urow upts utks uglv uwin uheld utab udrawn udealt uon uturn uled utr uthr) [(cP, .int), (cR, .int), (cS, .int), (cT, .int), (cG, .int), (cW, .int), (cH, .int), (cO, .int)] (j_X3_cards uplace udealt x0) (jM b0 bP bR bS bT bG bW bH bO cP cR cS cT cG cW cH cO uplace urow upts utks uglv uwin uheld utab udrawn udealt uon uturn uled utr (j_X3_cards_uthr x0)) := by
  refine jW_of (QQ := fun A => (jQi D (j_X3_cards uplace udealt x0) (jM b0 bP bR bS bT bG bW bH bO cP cR cS cT cG cW cH cO uplace urow upts utks uglv uwin uheld utab udrawn udealt uon uturn uled utr (j_X3_cards_uthr x0)) [(cP, .int), (cR, .int), (cS, .int), (cT, .int), (cG, .int), (cW, .int), (cH, .int), (cO, .int)] A)) (cc := cX3_cards) (maxL := 2) (ret := (some .int)) (by decide) rfl (Nat.le_of_ble_eq_true rfl) ?_
  intro p e s m below meth c ls A S hr hlocks hini hP hK hN hD hS hA hl
  obtain ⟨hx, hb, hml, hown, hts⟩ := id S
  have hl : lv_has ls 2 [(0, .ref b0), (1, .int x0)] := hl
  refine lv_aload_n hx hb dX3_cards_0 rfl (lv_at hl 0 rfl) ?_
  refine lv_iload_n hx hb dX3_cards_1 rfl (lv_at hl 1 rfl) ?_
  refine jr_callS (n := 1) (As := [.int x0]) (rest := [.ref b0]) S (c_X3_isArchivist x0) gX3_cards_X3_isArchivist rfl (by decide +kernel) rfl ⟨⟨rfl, rfl⟩, ⟨Nat.le_of_ble_eq_true rfl, Nat.le_of_ble_eq_true rfl⟩, Nat.le_of_ble_eq_true rfl, Nat.le_of_ble_eq_true rfl⟩ hP hK hN [] [] rfl rfl (lv_nil hl) rfl (Nat.le_of_ble_eq_true rfl) dX3_cards_2 ?_
  refine lv_if_eq (tgt := 12) hx hb dX3_cards_5 (by decide) (fun c_1 => ?_) (fun c_1 => ?_)
  · skip
    refine lv_iconst (v := 1) hx hb dX3_cards_12 (by decide) ?_
    refine va_put (D := D) (ci := 3) (v := .int 1) (ty := .int) (C := RX3) (T := TX3) (N := 15) hx hb hts inX3_cards_X3 tyX3 tyX3_ok nmX3 hown hK hP hD hS 0 rfl rfl 12 (by decide) (hts (.fieldLink RX3 41 "ArchivistTricksModel" "thrown" "I") (by decide +kernel)) (fun _ h9 => h9) rfl (by decide +kernel) rfl rfl (Nat.le_of_ble_eq_true rfl) dX3_cards_13 (fun H locs hP hD hS => ?_)
    have hP : va_P D vwCl [(b0, .inr (3, [.ref bP, .ref bR, .int udrawn, .int udealt, .int uon, .int uturn, .int uled, .int utr, .ref bS, .ref bT, .ref bG, .ref bW, .int 1, .ref bH, .ref bO])), (bP, .inl (cP, 42, .inl uplace)), (bR, .inl (cR, 42, .inl urow)), (bS, .inl (cS, 2, .inl upts)), (bT, .inl (cT, 2, .inl utks)), (bG, .inl (cG, 2, .inl uglv)), (bW, .inl (cW, 2, .inl uwin)), (bH, .inl (cH, 12, .inl uheld)), (bO, .inl (cO, 8192, .inl utab))] H := hP
    have hD : va_D A [(b0, .inr (3, [.ref bP, .ref bR, .int udrawn, .int udealt, .int uon, .int uturn, .int uled, .int utr, .ref bS, .ref bT, .ref bG, .ref bW, .int 1, .ref bH, .ref bO])), (bP, .inl (cP, 42, .inl uplace)), (bR, .inl (cR, 42, .inl urow)), (bS, .inl (cS, 2, .inl upts)), (bT, .inl (cT, 2, .inl utks)), (bG, .inl (cG, 2, .inl uglv)), (bW, .inl (cW, 2, .inl uwin)), (bH, .inl (cH, 12, .inl uheld)), (bO, .inl (cO, 8192, .inl utab))] := hD
    refine lv_aload_n hx hb dX3_cards_16 rfl (lv_at hl 0 rfl) ?_
    refine va_get (D := D) (ci := 3) (v := .int 1) (C := RX3) (T := TX3) (N := 15) hx hb hts inX3_cards_X3 hown hK hP 0 rfl rfl 12 (by decide) (hts (.fieldLink RX3 41 "ArchivistTricksModel" "thrown" "I") (by decide +kernel)) (fun _ h9 => h9) rfl dX3_cards_17 ?_
    refine lv_if_ne (tgt := 31) hx hb dX3_cards_20 (by decide) (fun _ => ?_) (fun c_ => absurd c_ (by decide))
    refine lv_iconst (v := 0) hx hb dX3_cards_31 (by decide) ?_
    exact jw_iret hx hb hr hlocks hK hP hD hS dX3_cards_32 (by  simp only [j_X3_cards, if_pos c_1]) (by  simp only [j_X3_cards_uthr, if_pos c_1])
  · skip
    refine lv_iconst (v := 0) hx hb dX3_cards_8 (by decide) ?_
    refine lv_goto (tgt := 13) hx hb dX3_cards_9 (by decide) ?_
    refine va_put (D := D) (ci := 3) (v := .int 0) (ty := .int) (C := RX3) (T := TX3) (N := 15) hx hb hts inX3_cards_X3 tyX3 tyX3_ok nmX3 hown hK hP hD hS 0 rfl rfl 12 (by decide) (hts (.fieldLink RX3 41 "ArchivistTricksModel" "thrown" "I") (by decide +kernel)) (fun _ h9 => h9) rfl (by decide +kernel) rfl rfl (Nat.le_of_ble_eq_true rfl) dX3_cards_13 (fun H locs hP hD hS => ?_)
    have hP : va_P D vwCl [(b0, .inr (3, [.ref bP, .ref bR, .int udrawn, .int udealt, .int uon, .int uturn, .int uled, .int utr, .ref bS, .ref bT, .ref bG, .ref bW, .int 0, .ref bH, .ref bO])), (bP, .inl (cP, 42, .inl uplace)), (bR, .inl (cR, 42, .inl urow)), (bS, .inl (cS, 2, .inl upts)), (bT, .inl (cT, 2, .inl utks)), (bG, .inl (cG, 2, .inl uglv)), (bW, .inl (cW, 2, .inl uwin)), (bH, .inl (cH, 12, .inl uheld)), (bO, .inl (cO, 8192, .inl utab))] H := hP
    have hD : va_D A [(b0, .inr (3, [.ref bP, .ref bR, .int udrawn, .int udealt, .int uon, .int uturn, .int uled, .int utr, .ref bS, .ref bT, .ref bG, .ref bW, .int 0, .ref bH, .ref bO])), (bP, .inl (cP, 42, .inl uplace)), (bR, .inl (cR, 42, .inl urow)), (bS, .inl (cS, 2, .inl upts)), (bT, .inl (cT, 2, .inl utks)), (bG, .inl (cG, 2, .inl uglv)), (bW, .inl (cW, 2, .inl uwin)), (bH, .inl (cH, 12, .inl uheld)), (bO, .inl (cO, 8192, .inl utab))] := hD
    refine lv_aload_n hx hb dX3_cards_16 rfl (lv_at hl 0 rfl) ?_
    refine va_get (D := D) (ci := 3) (v := .int 0) (C := RX3) (T := TX3) (N := 15) hx hb hts inX3_cards_X3 hown hK hP 0 rfl rfl 12 (by decide) (hts (.fieldLink RX3 41 "ArchivistTricksModel" "thrown" "I") (by decide +kernel)) (fun _ h9 => h9) rfl dX3_cards_17 ?_
    refine lv_if_ne (tgt := 31) hx hb dX3_cards_20 (by decide) (fun c_ => absurd (by decide) c_) (fun _ => ?_)
    refine lv_aload_n hx hb dX3_cards_23 rfl (lv_at hl 0 rfl) ?_
    refine lv_iload_n hx hb dX3_cards_24 rfl (lv_at hl 1 rfl) ?_
    refine jr_callV (n := 1) (C := RX3) (As := [.int x0]) (rest := []) S (c_X3_howMany b0 bP bR bS bT bG bW bH bO cP cR cS cT cG cW cH cO uplace urow upts utks uglv uwin uheld utab udrawn udealt uon uturn uled utr 0 x0) gX3_cards_X3_howMany rfl (by decide +kernel) rfl ⟨⟨rfl, rfl⟩, ⟨Nat.le_of_ble_eq_true rfl, Nat.le_of_ble_eq_true rfl⟩, Nat.le_of_ble_eq_true rfl, Nat.le_of_ble_eq_true rfl⟩ hP hK hN [0, 1, 2, 3, 4, 5, 6, 7, 8] [0, 1, 2, 3, 4, 5, 6, 7] rfl rfl 0 3 rfl rfl rfl (lv_nil hl) rfl (Nat.le_of_ble_eq_true rfl) dX3_cards_25 ?_
    refine lv_goto (tgt := 32) hx hb dX3_cards_28 (by decide) ?_
    exact jw_iret hx hb hr hlocks hK hP hD hS dX3_cards_32 (by  simp only [j_X3_cards, if_neg c_1]) (by  simp only [j_X3_cards_uthr, if_neg c_1])

abbrev rX3_cardAt : Room := { frames := 1, cells := 0, slots := 0, locals := 20 }
def j_X3_cardAt_10 (uplace : Nat → Int32) (udealt : Int32) (x0 : Int32) (x1 : Int32) : Nat → Nat → Int32 → Int32
  | 0, i, y3 => 0
  | n + 1, i, y3 => (if udealt = 0 then 0 else (if j_X3_isArchivist x0 = 0 then 0 else (if x1 < 0 then 0 else (if uplace (nI i).toNatClampNeg = x0 then (if y3 = 0 then nI i else j_X3_cardAt_10 uplace udealt x0 x1 n (i + 1) (y3 + (-1))) else j_X3_cardAt_10 uplace udealt x0 x1 n (i + 1) y3))))
def j_X3_cardAt (uplace : Nat → Int32) (udealt : Int32) (x0 : Int32) (x1 : Int32) : Int32 := j_X3_cardAt_10 uplace udealt x0 x1 42 0 x1
def j_X3_cardAt_uthr_10 (uplace : Nat → Int32) (udealt : Int32) (x0 : Int32) (x1 : Int32) : Nat → Nat → Int32 → Int32
  | 0, i, y3 => 1
  | n + 1, i, y3 => (if udealt = 0 then 1 else (if j_X3_isArchivist x0 = 0 then 1 else (if x1 < 0 then 1 else (if uplace (nI i).toNatClampNeg = x0 then (if y3 = 0 then 0 else j_X3_cardAt_uthr_10 uplace udealt x0 x1 n (i + 1) (y3 + (-1))) else j_X3_cardAt_uthr_10 uplace udealt x0 x1 n (i + 1) y3))))
def j_X3_cardAt_uthr (uplace : Nat → Int32) (udealt : Int32) (x0 : Int32) (x1 : Int32) : Int32 := j_X3_cardAt_uthr_10 uplace udealt x0 x1 42 0 x1
theorem inX3_cardAt_X3 : ∀ w ∈ u_ws RX3 TX3 15, w ∈ wsX3_cardAt := by decide +kernel
set_option maxRecDepth 100000 in
set_option maxHeartbeats 8000000 in
theorem c_X3_cardAt {l : Launch} {D : va_G} (b0 : Nat) (bP : Nat) (bR : Nat) (bS : Nat) (bT : Nat) (bG : Nat) (bW : Nat) (bH : Nat) (bO : Nat) (cP : ClassId) (cR : ClassId) (cS : ClassId) (cT : ClassId) (cG : ClassId) (cW : ClassId) (cH : ClassId) (cO : ClassId) (uplace : Nat → Int32) (urow : Nat → Int32) (upts : Nat → Int32) (utks : Nat → Int32) (uglv : Nat → Int32) (uwin : Nat → Int32) (uheld : Nat → Int32) (utab : Nat → Int32) (udrawn : Int32) (udealt : Int32) (uon : Int32) (uturn : Int32) (uled : Int32) (utr : Int32) (uthr : Int32) (x0 : Int32) (x1 : Int32) : jWi l yX3_cardAt wsX3_cardAt rX3_cardAt D [.ref b0, .int x0, .int x1] (jM b0 bP bR bS bT bG bW bH bO cP cR cS cT cG cW cH cO uplace urow upts utks uglv uwin uheld utab udrawn udealt uon uturn uled utr uthr) [(cP, .int), (cR, .int), (cS, .int), (cT, .int), (cG, .int), (cW, .int), (cH, .int), (cO, .int)] (j_X3_cardAt uplace udealt x0 x1) (jM b0 bP bR bS bT bG bW bH bO cP cR cS cT cG cW cH cO uplace urow upts utks uglv uwin uheld utab udrawn udealt uon uturn uled utr (j_X3_cardAt_uthr uplace udealt x0 x1)) := by
  refine jW_of (QQ := fun A => (jQi D (j_X3_cardAt uplace udealt x0 x1) (jM b0 bP bR bS bT bG bW bH bO cP cR cS cT cG cW cH cO uplace urow upts utks uglv uwin uheld utab udrawn udealt uon uturn uled utr (j_X3_cardAt_uthr uplace udealt x0 x1)) [(cP, .int), (cR, .int), (cS, .int), (cT, .int), (cG, .int), (cW, .int), (cH, .int), (cO, .int)] A)) (cc := cX3_cardAt) (maxL := 5) (ret := (some .int)) (by decide) rfl (Nat.le_of_ble_eq_true rfl) ?_
  intro p e s m below meth c ls A S hr hlocks hini hP hK hN hD hS hA hl
  obtain ⟨hx, hb, hml, hown, hts⟩ := id S
  have hl : lv_has ls 5 [(0, .ref b0), (1, .int x0), (2, .int x1)] := hl
  have loop10 : ∀ (n i : Nat) (y3 : Int32), i + n = 42 → j_X3_cardAt_10 uplace udealt x0 x1 n i y3 = (j_X3_cardAt uplace udealt x0 x1) → j_X3_cardAt_uthr_10 uplace udealt x0 x1 n i y3 = (j_X3_cardAt_uthr uplace udealt x0 x1) → ∀ (H : Heap) (locs : List Loc), va_P D vwCl [(b0, .inr (3, [.ref bP, .ref bR, .int udrawn, .int udealt, .int uon, .int uturn, .int uled, .int utr, .ref bS, .ref bT, .ref bG, .ref bW, .int 1, .ref bH, .ref bO])), (bP, .inl (cP, 42, .inl uplace)), (bR, .inl (cR, 42, .inl urow)), (bS, .inl (cS, 2, .inl upts)), (bT, .inl (cT, 2, .inl utks)), (bG, .inl (cG, 2, .inl uglv)), (bW, .inl (cW, 2, .inl uwin)), (bH, .inl (cH, 12, .inl uheld)), (bO, .inl (cO, 8192, .inl utab))] H → va_D A [(b0, .inr (3, [.ref bP, .ref bR, .int udrawn, .int udealt, .int uon, .int uturn, .int uled, .int utr, .ref bS, .ref bT, .ref bG, .ref bW, .int 1, .ref bH, .ref bO])), (bP, .inl (cP, 42, .inl uplace)), (bR, .inl (cR, 42, .inl urow)), (bS, .inl (cS, 2, .inl upts)), (bT, .inl (cT, 2, .inl utks)), (bG, .inl (cG, 2, .inl uglv)), (bW, .inl (cW, 2, .inl uwin)), (bH, .inl (cH, 12, .inl uheld)), (bO, .inl (cO, 8192, .inl utab))] → va_S A s.heap H locs → ∀ (ls : Array Slot), lv_has ls 5 [(4, .int (nI i)), (3, .int y3), (0, .ref b0), (1, .int x0), (2, .int x1)] → W p l e rX3_cardAt s m ([.ref b0, .int x0, .int x1] : List Value).toArray below meth c H locs 0 0 (MQ below (jQi D (j_X3_cardAt uplace udealt x0 x1) (jM b0 bP bR bS bT bG bW bH bO cP cR cS cT cG cW cH cO uplace urow upts utks uglv uwin uheld utab udrawn udealt uon uturn uled utr (j_X3_cardAt_uthr uplace udealt x0 x1)) [(cP, .int), (cR, .int), (cS, .int), (cT, .int), (cG, .int), (cW, .int), (cH, .int), (cO, .int)] A) ([.ref b0, .int x0, .int x1] : List Value).toArray s 0 0 A) (F0 m 10 ls []) := by
    intro n
    induction n with
    | zero =>
      intro i y3 hin hv_ret hv_uthr H locs hP hD hS ls hl
      have hge : (42 : Int32) ≤ nI i := by rw [show i = 42 by omega]; decide
      have hgl : ¬ nI i < (42 : Int32) := by rw [show i = 42 by omega]; decide
      refine lv_iload hx hb dX3_cardAt_10 (lv_at hl 0 rfl) ?_
      refine lv_bipush (v := 42) hx hb dX3_cardAt_12 (by decide) ?_
      refine lv_icmp_ge (tgt := 67) hx hb dX3_cardAt_14 (by decide) (fun _ => ?_) (fun c_ => absurd hge c_)
      refine lv_iconst (v := 0) hx hb dX3_cardAt_67 (by decide) ?_
      exact jw_iret hx hb hr hlocks hK hP hD hS dX3_cardAt_68 (by rw [← hv_ret]; simp only [j_X3_cardAt_10, if_pos hge, if_neg hgl]) (by rw [← hv_uthr]; simp only [j_X3_cardAt_uthr_10, if_pos hge, if_neg hgl])
    | succ n ih =>
      intro i y3 hin hv_ret hv_uthr H locs hP hD hS ls hl
      have hge : ¬ (42 : Int32) ≤ nI i := nI_ge (a := i) (b := 42) (by omega) (by decide)
      have hgl : nI i < (42 : Int32) := nI_lt (a := i) (b := 42) (by omega) (by decide)
      refine lv_iload hx hb dX3_cardAt_10 (lv_at hl 0 rfl) ?_
      refine lv_bipush (v := 42) hx hb dX3_cardAt_12 (by decide) ?_
      refine lv_icmp_ge (tgt := 67) hx hb dX3_cardAt_14 (by decide) (fun c_ => absurd c_ hge) (fun _ => ?_)
      refine lv_aload_n hx hb dX3_cardAt_17 rfl (lv_at hl 2 rfl) ?_
      refine va_get (D := D) (ci := 3) (v := .int udealt) (C := RX3) (T := TX3) (N := 15) hx hb hts inX3_cardAt_X3 hown hK hP 0 rfl rfl 3 (by decide) (hts (.fieldLink RX3 58 "ArchivistTricksModel" "isDealt" "Z") (by decide +kernel)) (fun _ h9 => h9) rfl dX3_cardAt_18 ?_
      refine lv_if_eq (tgt := 67) hx hb dX3_cardAt_21 (by decide) (fun c_10001 => ?_) (fun c_10001 => ?_)
      · skip
        refine lv_iconst (v := 0) hx hb dX3_cardAt_67 (by decide) ?_
        exact jw_iret hx hb hr hlocks hK hP hD hS dX3_cardAt_68 (by rw [← hv_ret]; simp only [j_X3_cardAt_10, if_neg hge, if_pos hgl, if_pos c_10001]) (by rw [← hv_uthr]; simp only [j_X3_cardAt_uthr_10, if_neg hge, if_pos hgl, if_pos c_10001])
      · skip
        refine lv_iload_n hx hb dX3_cardAt_24 rfl (lv_at hl 3 rfl) ?_
        refine jr_callS (n := 1) (As := [.int x0]) (rest := []) S (c_X3_isArchivist x0) gX3_cardAt_X3_isArchivist rfl (by decide +kernel) rfl ⟨⟨rfl, rfl⟩, ⟨Nat.le_of_ble_eq_true rfl, Nat.le_of_ble_eq_true rfl⟩, Nat.le_of_ble_eq_true rfl, Nat.le_of_ble_eq_true rfl⟩ hP hK hN [] [] rfl rfl (lv_nil hl) rfl (Nat.le_of_ble_eq_true rfl) dX3_cardAt_25 ?_
        refine lv_if_eq (tgt := 67) hx hb dX3_cardAt_28 (by decide) (fun c_10002 => ?_) (fun c_10002 => ?_)
        · skip
          refine lv_iconst (v := 0) hx hb dX3_cardAt_67 (by decide) ?_
          exact jw_iret hx hb hr hlocks hK hP hD hS dX3_cardAt_68 (by rw [← hv_ret]; simp only [j_X3_cardAt_10, if_neg hge, if_pos hgl, if_neg c_10001, if_pos c_10002]) (by rw [← hv_uthr]; simp only [j_X3_cardAt_uthr_10, if_neg hge, if_pos hgl, if_neg c_10001, if_pos c_10002])
        · skip
          refine lv_iload_n hx hb dX3_cardAt_31 rfl (lv_at hl 4 rfl) ?_
          refine lv_if_lt (tgt := 67) hx hb dX3_cardAt_32 (by decide) (fun c_10003 => ?_) (fun c_10003 => ?_)
          · skip
            refine lv_iconst (v := 0) hx hb dX3_cardAt_67 (by decide) ?_
            exact jw_iret hx hb hr hlocks hK hP hD hS dX3_cardAt_68 (by rw [← hv_ret]; simp only [j_X3_cardAt_10, if_neg hge, if_pos hgl, if_neg c_10001, if_neg c_10002, if_pos c_10003]) (by rw [← hv_uthr]; simp only [j_X3_cardAt_uthr_10, if_neg hge, if_pos hgl, if_neg c_10001, if_neg c_10002, if_pos c_10003])
          · skip
            refine lv_aload_n hx hb dX3_cardAt_35 rfl (lv_at hl 2 rfl) ?_
            refine va_get (D := D) (ci := 3) (v := .ref bP) (C := RX3) (T := TX3) (N := 15) hx hb hts inX3_cardAt_X3 hown hK hP 0 rfl rfl 0 (by decide) (hts (.fieldLink RX3 7 "ArchivistTricksModel" "place" "[I") (by decide +kernel)) (fun _ h9 => h9) rfl dX3_cardAt_36 ?_
            refine lv_iload hx hb dX3_cardAt_39 (lv_at hl 0 rfl) ?_
            refine va_iald hx hb hK hP 1 0 rfl rfl (i := nI i) (vp_in_nI (by omega) (by decide)) dX3_cardAt_41 ?_
            refine lv_iload_n hx hb dX3_cardAt_42 rfl (lv_at hl 3 rfl) ?_
            refine lv_icmp_ne (tgt := 61) hx hb dX3_cardAt_43 (by decide) (fun c_10004 => ?_) (fun c_10004 => ?_)
            · skip
              refine lv_iinc (v := nI (i + 1)) (lv' := [(4, .int (nI (i + 1))), (3, .int y3), (0, .ref b0), (1, .int x0), (2, .int x1)]) hx hb dX3_cardAt_61 hl (k := 0) rfl (nI_1 i) (by decide) rfl (fun ls hl => ?_)
              refine lv_goto (tgt := 10) hx hb dX3_cardAt_64 (by decide) ?_
              exact ih (i + 1) y3 (by omega) (by rw [← hv_ret]; simp only [j_X3_cardAt_10, if_neg hge, if_pos hgl, if_neg c_10001, if_neg c_10002, if_neg c_10003, if_neg c_10004]) (by rw [← hv_uthr]; simp only [j_X3_cardAt_uthr_10, if_neg hge, if_pos hgl, if_neg c_10001, if_neg c_10002, if_neg c_10003, if_neg c_10004]) _ _ hP hD hS ls (lv_sub hl [0, 1, 2, 3, 4] rfl)
            · skip
              refine lv_iload_n hx hb dX3_cardAt_46 rfl (lv_at hl 1 rfl) ?_
              refine lv_if_ne (tgt := 58) hx hb dX3_cardAt_47 (by decide) (fun c_10005 => ?_) (fun c_10005 => ?_)
              · skip
                refine lv_iinc (v := y3 + (-1)) (lv' := [(3, .int (y3 + (-1))), (4, .int (nI i)), (0, .ref b0), (1, .int x0), (2, .int x1)]) hx hb dX3_cardAt_58 hl (k := 1) rfl rfl (by decide) rfl (fun ls hl => ?_)
                refine lv_iinc (v := nI (i + 1)) (lv' := [(4, .int (nI (i + 1))), (3, .int (y3 + (-1))), (0, .ref b0), (1, .int x0), (2, .int x1)]) hx hb dX3_cardAt_61 hl (k := 1) rfl (nI_1 i) (by decide) rfl (fun ls hl => ?_)
                refine lv_goto (tgt := 10) hx hb dX3_cardAt_64 (by decide) ?_
                exact ih (i + 1) (y3 + (-1)) (by omega) (by rw [← hv_ret]; simp only [j_X3_cardAt_10, if_neg hge, if_pos hgl, if_neg c_10001, if_neg c_10002, if_neg c_10003, if_pos c_10004, if_neg c_10005]) (by rw [← hv_uthr]; simp only [j_X3_cardAt_uthr_10, if_neg hge, if_pos hgl, if_neg c_10001, if_neg c_10002, if_neg c_10003, if_pos c_10004, if_neg c_10005]) _ _ hP hD hS ls (lv_sub hl [0, 1, 2, 3, 4] rfl)
              · skip
                refine lv_aload_n hx hb dX3_cardAt_50 rfl (lv_at hl 2 rfl) ?_
                refine lv_iconst (v := 0) hx hb dX3_cardAt_51 (by decide) ?_
                refine va_put (D := D) (ci := 3) (v := .int 0) (ty := .int) (C := RX3) (T := TX3) (N := 15) hx hb hts inX3_cardAt_X3 tyX3 tyX3_ok nmX3 hown hK hP hD hS 0 rfl rfl 12 (by decide) (hts (.fieldLink RX3 41 "ArchivistTricksModel" "thrown" "I") (by decide +kernel)) (fun _ h9 => h9) rfl (by decide +kernel) rfl rfl (Nat.le_of_ble_eq_true rfl) dX3_cardAt_52 (fun H locs hP hD hS => ?_)
                have hP : va_P D vwCl [(b0, .inr (3, [.ref bP, .ref bR, .int udrawn, .int udealt, .int uon, .int uturn, .int uled, .int utr, .ref bS, .ref bT, .ref bG, .ref bW, .int 0, .ref bH, .ref bO])), (bP, .inl (cP, 42, .inl uplace)), (bR, .inl (cR, 42, .inl urow)), (bS, .inl (cS, 2, .inl upts)), (bT, .inl (cT, 2, .inl utks)), (bG, .inl (cG, 2, .inl uglv)), (bW, .inl (cW, 2, .inl uwin)), (bH, .inl (cH, 12, .inl uheld)), (bO, .inl (cO, 8192, .inl utab))] H := hP
                have hD : va_D A [(b0, .inr (3, [.ref bP, .ref bR, .int udrawn, .int udealt, .int uon, .int uturn, .int uled, .int utr, .ref bS, .ref bT, .ref bG, .ref bW, .int 0, .ref bH, .ref bO])), (bP, .inl (cP, 42, .inl uplace)), (bR, .inl (cR, 42, .inl urow)), (bS, .inl (cS, 2, .inl upts)), (bT, .inl (cT, 2, .inl utks)), (bG, .inl (cG, 2, .inl uglv)), (bW, .inl (cW, 2, .inl uwin)), (bH, .inl (cH, 12, .inl uheld)), (bO, .inl (cO, 8192, .inl utab))] := hD
                refine lv_iload hx hb dX3_cardAt_55 (lv_at hl 0 rfl) ?_
                exact jw_iret hx hb hr hlocks hK hP hD hS dX3_cardAt_57 (by rw [← hv_ret]; simp only [j_X3_cardAt_10, if_neg hge, if_pos hgl, if_neg c_10001, if_neg c_10002, if_neg c_10003, if_pos c_10004, if_pos c_10005]) (by rw [← hv_uthr]; simp only [j_X3_cardAt_uthr_10, if_neg hge, if_pos hgl, if_neg c_10001, if_neg c_10002, if_neg c_10003, if_pos c_10004, if_pos c_10005])
  refine lv_aload_n hx hb dX3_cardAt_0 rfl (lv_at hl 0 rfl) ?_
  refine lv_iconst (v := 1) hx hb dX3_cardAt_1 (by decide) ?_
  refine va_put (D := D) (ci := 3) (v := .int 1) (ty := .int) (C := RX3) (T := TX3) (N := 15) hx hb hts inX3_cardAt_X3 tyX3 tyX3_ok nmX3 hown hK hP hD hS 0 rfl rfl 12 (by decide) (hts (.fieldLink RX3 41 "ArchivistTricksModel" "thrown" "I") (by decide +kernel)) (fun _ h9 => h9) rfl (by decide +kernel) rfl rfl (Nat.le_of_ble_eq_true rfl) dX3_cardAt_2 (fun H locs hP hD hS => ?_)
  have hP : va_P D vwCl [(b0, .inr (3, [.ref bP, .ref bR, .int udrawn, .int udealt, .int uon, .int uturn, .int uled, .int utr, .ref bS, .ref bT, .ref bG, .ref bW, .int 1, .ref bH, .ref bO])), (bP, .inl (cP, 42, .inl uplace)), (bR, .inl (cR, 42, .inl urow)), (bS, .inl (cS, 2, .inl upts)), (bT, .inl (cT, 2, .inl utks)), (bG, .inl (cG, 2, .inl uglv)), (bW, .inl (cW, 2, .inl uwin)), (bH, .inl (cH, 12, .inl uheld)), (bO, .inl (cO, 8192, .inl utab))] H := hP
  have hD : va_D A [(b0, .inr (3, [.ref bP, .ref bR, .int udrawn, .int udealt, .int uon, .int uturn, .int uled, .int utr, .ref bS, .ref bT, .ref bG, .ref bW, .int 1, .ref bH, .ref bO])), (bP, .inl (cP, 42, .inl uplace)), (bR, .inl (cR, 42, .inl urow)), (bS, .inl (cS, 2, .inl upts)), (bT, .inl (cT, 2, .inl utks)), (bG, .inl (cG, 2, .inl uglv)), (bW, .inl (cW, 2, .inl uwin)), (bH, .inl (cH, 12, .inl uheld)), (bO, .inl (cO, 8192, .inl utab))] := hD
  refine lv_iload_n hx hb dX3_cardAt_5 rfl (lv_at hl 2 rfl) ?_
  refine lv_istore_n (lv' := [(3, .int x1), (0, .ref b0), (1, .int x0), (2, .int x1)]) hx hb dX3_cardAt_6 rfl hl (by decide) rfl (fun ls hl => ?_)
  refine lv_iconst (v := 0) hx hb dX3_cardAt_7 (by decide) ?_
  refine lv_istore (lv' := [(4, .int 0), (3, .int x1), (0, .ref b0), (1, .int x0), (2, .int x1)]) hx hb dX3_cardAt_8 hl (by decide) rfl (fun ls hl => ?_)
  exact loop10 42 0 x1 rfl (by simp only [j_X3_cardAt]) (by simp only [j_X3_cardAt_uthr]) _ _ hP hD hS ls (lv_sub (l' := [(4, .int (nI 0)), (3, .int x1), (0, .ref b0), (1, .int x0), (2, .int x1)]) hl [0, 1, 2, 3, 4] rfl)

abbrev rX3_placeOf : Room := { frames := 1, cells := 0, slots := 0, locals := 20 }
def j_X3_placeOf (uplace : Nat → Int32) (udealt : Int32) (x0 : Int32) : Int32 := (if j_X3_isCard x0 = 0 then 0 else (if udealt = 0 then (-1) else uplace (x0).toNatClampNeg))
def j_X3_placeOf_uthr (x0 : Int32) : Int32 := (if j_X3_isCard x0 = 0 then 1 else 0)
theorem inX3_placeOf_X3 : ∀ w ∈ u_ws RX3 TX3 15, w ∈ wsX3_placeOf := by decide +kernel
set_option maxRecDepth 100000 in
set_option maxHeartbeats 8000000 in
theorem c_X3_placeOf {l : Launch} {D : va_G} (b0 : Nat) (bP : Nat) (bR : Nat) (bS : Nat) (bT : Nat) (bG : Nat) (bW : Nat) (bH : Nat) (bO : Nat) (cP : ClassId) (cR : ClassId) (cS : ClassId) (cT : ClassId) (cG : ClassId) (cW : ClassId) (cH : ClassId) (cO : ClassId) (uplace : Nat → Int32) (urow : Nat → Int32) (upts : Nat → Int32) (utks : Nat → Int32) (uglv : Nat → Int32) (uwin : Nat → Int32) (uheld : Nat → Int32) (utab : Nat → Int32) (udrawn : Int32) (udealt : Int32) (uon : Int32) (uturn : Int32) (uled : Int32) (utr : Int32) (uthr : Int32) (x0 : Int32) : jWi l yX3_placeOf wsX3_placeOf rX3_placeOf D [.ref b0, .int x0] (jM b0 bP bR bS bT bG bW bH bO cP cR cS cT cG cW cH cO uplace urow upts utks uglv uwin uheld utab udrawn udealt uon uturn uled utr uthr) [(cP, .int), (cR, .int), (cS, .int), (cT, .int), (cG, .int), (cW, .int), (cH, .int), (cO, .int)] (j_X3_placeOf uplace udealt x0) (jM b0 bP bR bS bT bG bW bH bO cP cR cS cT cG cW cH cO uplace urow upts utks uglv uwin uheld utab udrawn udealt uon uturn uled utr (j_X3_placeOf_uthr x0)) := by
  refine jW_of (QQ := fun A => (jQi D (j_X3_placeOf uplace udealt x0) (jM b0 bP bR bS bT bG bW bH bO cP cR cS cT cG cW cH cO uplace urow upts utks uglv uwin uheld utab udrawn udealt uon uturn uled utr (j_X3_placeOf_uthr x0)) [(cP, .int), (cR, .int), (cS, .int), (cT, .int), (cG, .int), (cW, .int), (cH, .int), (cO, .int)] A)) (cc := cX3_placeOf) (maxL := 2) (ret := (some .int)) (by decide) rfl (Nat.le_of_ble_eq_true rfl) ?_
  intro p e s m below meth c ls A S hr hlocks hini hP hK hN hD hS hA hl
  obtain ⟨hx, hb, hml, hown, hts⟩ := id S
  have hl : lv_has ls 2 [(0, .ref b0), (1, .int x0)] := hl
  refine lv_aload_n hx hb dX3_placeOf_0 rfl (lv_at hl 0 rfl) ?_
  refine lv_iload_n hx hb dX3_placeOf_1 rfl (lv_at hl 1 rfl) ?_
  refine jr_callS (n := 1) (As := [.int x0]) (rest := [.ref b0]) S (c_X3_isCard x0) gX3_placeOf_X3_isCard rfl (by decide +kernel) rfl ⟨⟨rfl, rfl⟩, ⟨Nat.le_of_ble_eq_true rfl, Nat.le_of_ble_eq_true rfl⟩, Nat.le_of_ble_eq_true rfl, Nat.le_of_ble_eq_true rfl⟩ hP hK hN [] [] rfl rfl (lv_nil hl) rfl (Nat.le_of_ble_eq_true rfl) dX3_placeOf_2 ?_
  refine lv_if_eq (tgt := 12) hx hb dX3_placeOf_5 (by decide) (fun c_1 => ?_) (fun c_1 => ?_)
  · skip
    refine lv_iconst (v := 1) hx hb dX3_placeOf_12 (by decide) ?_
    refine va_put (D := D) (ci := 3) (v := .int 1) (ty := .int) (C := RX3) (T := TX3) (N := 15) hx hb hts inX3_placeOf_X3 tyX3 tyX3_ok nmX3 hown hK hP hD hS 0 rfl rfl 12 (by decide) (hts (.fieldLink RX3 41 "ArchivistTricksModel" "thrown" "I") (by decide +kernel)) (fun _ h9 => h9) rfl (by decide +kernel) rfl rfl (Nat.le_of_ble_eq_true rfl) dX3_placeOf_13 (fun H locs hP hD hS => ?_)
    have hP : va_P D vwCl [(b0, .inr (3, [.ref bP, .ref bR, .int udrawn, .int udealt, .int uon, .int uturn, .int uled, .int utr, .ref bS, .ref bT, .ref bG, .ref bW, .int 1, .ref bH, .ref bO])), (bP, .inl (cP, 42, .inl uplace)), (bR, .inl (cR, 42, .inl urow)), (bS, .inl (cS, 2, .inl upts)), (bT, .inl (cT, 2, .inl utks)), (bG, .inl (cG, 2, .inl uglv)), (bW, .inl (cW, 2, .inl uwin)), (bH, .inl (cH, 12, .inl uheld)), (bO, .inl (cO, 8192, .inl utab))] H := hP
    have hD : va_D A [(b0, .inr (3, [.ref bP, .ref bR, .int udrawn, .int udealt, .int uon, .int uturn, .int uled, .int utr, .ref bS, .ref bT, .ref bG, .ref bW, .int 1, .ref bH, .ref bO])), (bP, .inl (cP, 42, .inl uplace)), (bR, .inl (cR, 42, .inl urow)), (bS, .inl (cS, 2, .inl upts)), (bT, .inl (cT, 2, .inl utks)), (bG, .inl (cG, 2, .inl uglv)), (bW, .inl (cW, 2, .inl uwin)), (bH, .inl (cH, 12, .inl uheld)), (bO, .inl (cO, 8192, .inl utab))] := hD
    refine lv_aload_n hx hb dX3_placeOf_16 rfl (lv_at hl 0 rfl) ?_
    refine va_get (D := D) (ci := 3) (v := .int 1) (C := RX3) (T := TX3) (N := 15) hx hb hts inX3_placeOf_X3 hown hK hP 0 rfl rfl 12 (by decide) (hts (.fieldLink RX3 41 "ArchivistTricksModel" "thrown" "I") (by decide +kernel)) (fun _ h9 => h9) rfl dX3_placeOf_17 ?_
    refine lv_if_eq (tgt := 27) hx hb dX3_placeOf_20 (by decide) (fun c_ => absurd c_ (by decide)) (fun _ => ?_)
    refine lv_iconst (v := 0) hx hb dX3_placeOf_23 (by decide) ?_
    refine lv_goto (tgt := 44) hx hb dX3_placeOf_24 (by decide) ?_
    exact jw_iret hx hb hr hlocks hK hP hD hS dX3_placeOf_44 (by  simp only [j_X3_placeOf, if_pos c_1]) (by  simp only [j_X3_placeOf_uthr, if_pos c_1])
  · skip
    refine lv_iconst (v := 0) hx hb dX3_placeOf_8 (by decide) ?_
    refine lv_goto (tgt := 13) hx hb dX3_placeOf_9 (by decide) ?_
    refine va_put (D := D) (ci := 3) (v := .int 0) (ty := .int) (C := RX3) (T := TX3) (N := 15) hx hb hts inX3_placeOf_X3 tyX3 tyX3_ok nmX3 hown hK hP hD hS 0 rfl rfl 12 (by decide) (hts (.fieldLink RX3 41 "ArchivistTricksModel" "thrown" "I") (by decide +kernel)) (fun _ h9 => h9) rfl (by decide +kernel) rfl rfl (Nat.le_of_ble_eq_true rfl) dX3_placeOf_13 (fun H locs hP hD hS => ?_)
    have hP : va_P D vwCl [(b0, .inr (3, [.ref bP, .ref bR, .int udrawn, .int udealt, .int uon, .int uturn, .int uled, .int utr, .ref bS, .ref bT, .ref bG, .ref bW, .int 0, .ref bH, .ref bO])), (bP, .inl (cP, 42, .inl uplace)), (bR, .inl (cR, 42, .inl urow)), (bS, .inl (cS, 2, .inl upts)), (bT, .inl (cT, 2, .inl utks)), (bG, .inl (cG, 2, .inl uglv)), (bW, .inl (cW, 2, .inl uwin)), (bH, .inl (cH, 12, .inl uheld)), (bO, .inl (cO, 8192, .inl utab))] H := hP
    have hD : va_D A [(b0, .inr (3, [.ref bP, .ref bR, .int udrawn, .int udealt, .int uon, .int uturn, .int uled, .int utr, .ref bS, .ref bT, .ref bG, .ref bW, .int 0, .ref bH, .ref bO])), (bP, .inl (cP, 42, .inl uplace)), (bR, .inl (cR, 42, .inl urow)), (bS, .inl (cS, 2, .inl upts)), (bT, .inl (cT, 2, .inl utks)), (bG, .inl (cG, 2, .inl uglv)), (bW, .inl (cW, 2, .inl uwin)), (bH, .inl (cH, 12, .inl uheld)), (bO, .inl (cO, 8192, .inl utab))] := hD
    refine lv_aload_n hx hb dX3_placeOf_16 rfl (lv_at hl 0 rfl) ?_
    refine va_get (D := D) (ci := 3) (v := .int 0) (C := RX3) (T := TX3) (N := 15) hx hb hts inX3_placeOf_X3 hown hK hP 0 rfl rfl 12 (by decide) (hts (.fieldLink RX3 41 "ArchivistTricksModel" "thrown" "I") (by decide +kernel)) (fun _ h9 => h9) rfl dX3_placeOf_17 ?_
    refine lv_if_eq (tgt := 27) hx hb dX3_placeOf_20 (by decide) (fun _ => ?_) (fun c_ => absurd (by decide) c_)
    refine lv_aload_n hx hb dX3_placeOf_27 rfl (lv_at hl 0 rfl) ?_
    refine va_get (D := D) (ci := 3) (v := .int udealt) (C := RX3) (T := TX3) (N := 15) hx hb hts inX3_placeOf_X3 hown hK hP 0 rfl rfl 3 (by decide) (hts (.fieldLink RX3 58 "ArchivistTricksModel" "isDealt" "Z") (by decide +kernel)) (fun _ h9 => h9) rfl dX3_placeOf_28 ?_
    refine lv_if_eq (tgt := 43) hx hb dX3_placeOf_31 (by decide) (fun c_2 => ?_) (fun c_2 => ?_)
    · skip
      refine lv_iconst (v := (-1)) hx hb dX3_placeOf_43 (by decide) ?_
      exact jw_iret hx hb hr hlocks hK hP hD hS dX3_placeOf_44 (by  simp only [j_X3_placeOf, if_neg c_1, if_pos c_2]) (by  simp only [j_X3_placeOf_uthr, if_neg c_1, if_pos c_2])
    · skip
      refine lv_aload_n hx hb dX3_placeOf_34 rfl (lv_at hl 0 rfl) ?_
      refine va_get (D := D) (ci := 3) (v := .ref bP) (C := RX3) (T := TX3) (N := 15) hx hb hts inX3_placeOf_X3 hown hK hP 0 rfl rfl 0 (by decide) (hts (.fieldLink RX3 7 "ArchivistTricksModel" "place" "[I") (by decide +kernel)) (fun _ h9 => h9) rfl dX3_placeOf_35 ?_
      refine lv_iload_n hx hb dX3_placeOf_38 rfl (lv_at hl 1 rfl) ?_
      refine va_iald hx hb hK hP 1 0 rfl rfl (i := x0) (jx_card c_1) dX3_placeOf_39 ?_
      refine lv_goto (tgt := 44) hx hb dX3_placeOf_40 (by decide) ?_
      exact jw_iret hx hb hr hlocks hK hP hD hS dX3_placeOf_44 (by  simp only [j_X3_placeOf, if_neg c_1, if_neg c_2]) (by  simp only [j_X3_placeOf_uthr, if_neg c_1, if_neg c_2])

abbrev rX3_choices : Room := { frames := 4, cells := 0, slots := 0, locals := 86 }
def j_X3_choices_9 (uplace : Nat → Int32) (udrawn : Int32) (udealt : Int32) (uon : Int32) (uturn : Int32) (uled : Int32) (utr : Int32) : Nat → Nat → Int32 → Int32
  | 0, i, y1 => y1
  | n + 1, i, y1 => (if j_X3_why uplace udrawn udealt uon uturn uled utr (nI i) = 0 then j_X3_choices_9 uplace udrawn udealt uon uturn uled utr n (i + 1) (y1 + 1) else j_X3_choices_9 uplace udrawn udealt uon uturn uled utr n (i + 1) (y1 + 0))
def j_X3_choices (uplace : Nat → Int32) (udrawn : Int32) (udealt : Int32) (uon : Int32) (uturn : Int32) (uled : Int32) (utr : Int32) : Int32 := j_X3_choices_9 uplace udrawn udealt uon uturn uled utr 42 0 0
def j_X3_choices_uthr_9 (uplace : Nat → Int32) (udrawn : Int32) (udealt : Int32) (uon : Int32) (uturn : Int32) (uled : Int32) (utr : Int32) : Nat → Nat → Int32 → Int32
  | 0, i, y1 => 0
  | n + 1, i, y1 => (if j_X3_why uplace udrawn udealt uon uturn uled utr (nI i) = 0 then j_X3_choices_uthr_9 uplace udrawn udealt uon uturn uled utr n (i + 1) (y1 + 1) else j_X3_choices_uthr_9 uplace udrawn udealt uon uturn uled utr n (i + 1) (y1 + 0))
def j_X3_choices_uthr (uplace : Nat → Int32) (udrawn : Int32) (udealt : Int32) (uon : Int32) (uturn : Int32) (uled : Int32) (utr : Int32) : Int32 := j_X3_choices_uthr_9 uplace udrawn udealt uon uturn uled utr 42 0 0
theorem inX3_choices_X3 : ∀ w ∈ u_ws RX3 TX3 15, w ∈ wsX3_choices := by decide +kernel
set_option maxRecDepth 100000 in
set_option maxHeartbeats 8000000 in
theorem c_X3_choices {l : Launch} {D : va_G} (b0 : Nat) (bP : Nat) (bR : Nat) (bS : Nat) (bT : Nat) (bG : Nat) (bW : Nat) (bH : Nat) (bO : Nat) (cP : ClassId) (cR : ClassId) (cS : ClassId) (cT : ClassId) (cG : ClassId) (cW : ClassId) (cH : ClassId) (cO : ClassId) (uplace : Nat → Int32) (urow : Nat → Int32) (upts : Nat → Int32) (utks : Nat → Int32) (uglv : Nat → Int32) (uwin : Nat → Int32) (uheld : Nat → Int32) (utab : Nat → Int32) (udrawn : Int32) (udealt : Int32) (uon : Int32) (uturn : Int32) (uled : Int32) (utr : Int32) (uthr : Int32) : jWi l yX3_choices wsX3_choices rX3_choices D [.ref b0] (jM b0 bP bR bS bT bG bW bH bO cP cR cS cT cG cW cH cO uplace urow upts utks uglv uwin uheld utab udrawn udealt uon uturn uled utr uthr) [(cP, .int), (cR, .int), (cS, .int), (cT, .int), (cG, .int), (cW, .int), (cH, .int), (cO, .int)] (j_X3_choices uplace udrawn udealt uon uturn uled utr) (jM b0 bP bR bS bT bG bW bH bO cP cR cS cT cG cW cH cO uplace urow upts utks uglv uwin uheld utab udrawn udealt uon uturn uled utr (j_X3_choices_uthr uplace udrawn udealt uon uturn uled utr)) := by
  refine jW_of (QQ := fun A => (jQi D (j_X3_choices uplace udrawn udealt uon uturn uled utr) (jM b0 bP bR bS bT bG bW bH bO cP cR cS cT cG cW cH cO uplace urow upts utks uglv uwin uheld utab udrawn udealt uon uturn uled utr (j_X3_choices_uthr uplace udrawn udealt uon uturn uled utr)) [(cP, .int), (cR, .int), (cS, .int), (cT, .int), (cG, .int), (cW, .int), (cH, .int), (cO, .int)] A)) (cc := cX3_choices) (maxL := 3) (ret := (some .int)) (by decide) rfl (Nat.le_of_ble_eq_true rfl) ?_
  intro p e s m below meth c ls A S hr hlocks hini hP hK hN hD hS hA hl
  obtain ⟨hx, hb, hml, hown, hts⟩ := id S
  have hl : lv_has ls 3 [(0, .ref b0)] := hl
  have loop9 : ∀ (n i : Nat) (y1 : Int32), i + n = 42 → j_X3_choices_9 uplace udrawn udealt uon uturn uled utr n i y1 = (j_X3_choices uplace udrawn udealt uon uturn uled utr) → j_X3_choices_uthr_9 uplace udrawn udealt uon uturn uled utr n i y1 = (j_X3_choices_uthr uplace udrawn udealt uon uturn uled utr) → ∀ (H : Heap) (locs : List Loc), va_P D vwCl [(b0, .inr (3, [.ref bP, .ref bR, .int udrawn, .int udealt, .int uon, .int uturn, .int uled, .int utr, .ref bS, .ref bT, .ref bG, .ref bW, .int 0, .ref bH, .ref bO])), (bP, .inl (cP, 42, .inl uplace)), (bR, .inl (cR, 42, .inl urow)), (bS, .inl (cS, 2, .inl upts)), (bT, .inl (cT, 2, .inl utks)), (bG, .inl (cG, 2, .inl uglv)), (bW, .inl (cW, 2, .inl uwin)), (bH, .inl (cH, 12, .inl uheld)), (bO, .inl (cO, 8192, .inl utab))] H → va_D A [(b0, .inr (3, [.ref bP, .ref bR, .int udrawn, .int udealt, .int uon, .int uturn, .int uled, .int utr, .ref bS, .ref bT, .ref bG, .ref bW, .int 0, .ref bH, .ref bO])), (bP, .inl (cP, 42, .inl uplace)), (bR, .inl (cR, 42, .inl urow)), (bS, .inl (cS, 2, .inl upts)), (bT, .inl (cT, 2, .inl utks)), (bG, .inl (cG, 2, .inl uglv)), (bW, .inl (cW, 2, .inl uwin)), (bH, .inl (cH, 12, .inl uheld)), (bO, .inl (cO, 8192, .inl utab))] → va_S A s.heap H locs → ∀ (ls : Array Slot), lv_has ls 3 [(2, .int (nI i)), (1, .int y1), (0, .ref b0)] → W p l e rX3_choices s m ([.ref b0] : List Value).toArray below meth c H locs 0 0 (MQ below (jQi D (j_X3_choices uplace udrawn udealt uon uturn uled utr) (jM b0 bP bR bS bT bG bW bH bO cP cR cS cT cG cW cH cO uplace urow upts utks uglv uwin uheld utab udrawn udealt uon uturn uled utr (j_X3_choices_uthr uplace udrawn udealt uon uturn uled utr)) [(cP, .int), (cR, .int), (cS, .int), (cT, .int), (cG, .int), (cW, .int), (cH, .int), (cO, .int)] A) ([.ref b0] : List Value).toArray s 0 0 A) (F0 m 9 ls []) := by
    intro n
    induction n with
    | zero =>
      intro i y1 hin hv_ret hv_uthr H locs hP hD hS ls hl
      have hge : (42 : Int32) ≤ nI i := by rw [show i = 42 by omega]; decide
      have hgl : ¬ nI i < (42 : Int32) := by rw [show i = 42 by omega]; decide
      refine lv_iload_n hx hb dX3_choices_9 rfl (lv_at hl 0 rfl) ?_
      refine lv_bipush (v := 42) hx hb dX3_choices_10 (by decide) ?_
      refine lv_icmp_ge (tgt := 37) hx hb dX3_choices_12 (by decide) (fun _ => ?_) (fun c_ => absurd hge c_)
      refine lv_iload_n hx hb dX3_choices_37 rfl (lv_at hl 1 rfl) ?_
      exact jw_iret hx hb hr hlocks hK hP hD hS dX3_choices_38 (by rw [← hv_ret]; simp only [j_X3_choices_9, if_pos hge, if_neg hgl]) (by rw [← hv_uthr]; simp only [j_X3_choices_uthr_9, if_pos hge, if_neg hgl])
    | succ n ih =>
      intro i y1 hin hv_ret hv_uthr H locs hP hD hS ls hl
      have hge : ¬ (42 : Int32) ≤ nI i := nI_ge (a := i) (b := 42) (by omega) (by decide)
      have hgl : nI i < (42 : Int32) := nI_lt (a := i) (b := 42) (by omega) (by decide)
      refine lv_iload_n hx hb dX3_choices_9 rfl (lv_at hl 0 rfl) ?_
      refine lv_bipush (v := 42) hx hb dX3_choices_10 (by decide) ?_
      refine lv_icmp_ge (tgt := 37) hx hb dX3_choices_12 (by decide) (fun c_ => absurd c_ hge) (fun _ => ?_)
      refine lv_iload_n hx hb dX3_choices_15 rfl (lv_at hl 1 rfl) ?_
      refine lv_aload_n hx hb dX3_choices_16 rfl (lv_at hl 2 rfl) ?_
      refine lv_iload_n hx hb dX3_choices_17 rfl (lv_at hl 0 rfl) ?_
      refine jr_callV (n := 1) (C := RX3) (As := [.int (nI i)]) (rest := [.int y1]) S (c_X3_why b0 bP bR bS bT bG bW bH bO cP cR cS cT cG cW cH cO uplace urow upts utks uglv uwin uheld utab udrawn udealt uon uturn uled utr 0 (nI i) (vp_in_nI (by omega) (by decide))) gX3_choices_X3_why rfl (by decide +kernel) rfl ⟨⟨rfl, rfl⟩, ⟨Nat.le_of_ble_eq_true rfl, Nat.le_of_ble_eq_true rfl⟩, Nat.le_of_ble_eq_true rfl, Nat.le_of_ble_eq_true rfl⟩ hP hK hN [0, 1, 2, 3, 4, 5, 6, 7, 8] [0, 1, 2, 3, 4, 5, 6, 7] rfl rfl 0 3 rfl rfl rfl (lv_nil hl) rfl (Nat.le_of_ble_eq_true rfl) dX3_choices_18 ?_
      refine lv_if_ne (tgt := 28) hx hb dX3_choices_21 (by decide) (fun c_9001 => ?_) (fun c_9001 => ?_)
      · skip
        refine lv_iconst (v := 0) hx hb dX3_choices_28 (by decide) ?_
        refine lv_iadd hx hb dX3_choices_29 ?_
        refine lv_istore_n (lv' := [(1, .int (y1 + 0)), (2, .int (nI i)), (0, .ref b0)]) hx hb dX3_choices_30 rfl hl (by decide) rfl (fun ls hl => ?_)
        refine lv_iinc (v := nI (i + 1)) (lv' := [(2, .int (nI (i + 1))), (1, .int (y1 + 0)), (0, .ref b0)]) hx hb dX3_choices_31 hl (k := 1) rfl (nI_1 i) (by decide) rfl (fun ls hl => ?_)
        refine lv_goto (tgt := 9) hx hb dX3_choices_34 (by decide) ?_
        exact ih (i + 1) (y1 + 0) (by omega) (by rw [← hv_ret]; simp only [j_X3_choices_9, if_neg hge, if_pos hgl, if_neg c_9001]) (by rw [← hv_uthr]; simp only [j_X3_choices_uthr_9, if_neg hge, if_pos hgl, if_neg c_9001]) _ _ hP hD hS ls (lv_sub hl [0, 1, 2] rfl)
      · skip
        refine lv_iconst (v := 1) hx hb dX3_choices_24 (by decide) ?_
        refine lv_goto (tgt := 29) hx hb dX3_choices_25 (by decide) ?_
        refine lv_iadd hx hb dX3_choices_29 ?_
        refine lv_istore_n (lv' := [(1, .int (y1 + 1)), (2, .int (nI i)), (0, .ref b0)]) hx hb dX3_choices_30 rfl hl (by decide) rfl (fun ls hl => ?_)
        refine lv_iinc (v := nI (i + 1)) (lv' := [(2, .int (nI (i + 1))), (1, .int (y1 + 1)), (0, .ref b0)]) hx hb dX3_choices_31 hl (k := 1) rfl (nI_1 i) (by decide) rfl (fun ls hl => ?_)
        refine lv_goto (tgt := 9) hx hb dX3_choices_34 (by decide) ?_
        exact ih (i + 1) (y1 + 1) (by omega) (by rw [← hv_ret]; simp only [j_X3_choices_9, if_neg hge, if_pos hgl, if_pos c_9001]) (by rw [← hv_uthr]; simp only [j_X3_choices_uthr_9, if_neg hge, if_pos hgl, if_pos c_9001]) _ _ hP hD hS ls (lv_sub hl [0, 1, 2] rfl)
  refine lv_aload_n hx hb dX3_choices_0 rfl (lv_at hl 0 rfl) ?_
  refine lv_iconst (v := 0) hx hb dX3_choices_1 (by decide) ?_
  refine va_put (D := D) (ci := 3) (v := .int 0) (ty := .int) (C := RX3) (T := TX3) (N := 15) hx hb hts inX3_choices_X3 tyX3 tyX3_ok nmX3 hown hK hP hD hS 0 rfl rfl 12 (by decide) (hts (.fieldLink RX3 41 "ArchivistTricksModel" "thrown" "I") (by decide +kernel)) (fun _ h9 => h9) rfl (by decide +kernel) rfl rfl (Nat.le_of_ble_eq_true rfl) dX3_choices_2 (fun H locs hP hD hS => ?_)
  have hP : va_P D vwCl [(b0, .inr (3, [.ref bP, .ref bR, .int udrawn, .int udealt, .int uon, .int uturn, .int uled, .int utr, .ref bS, .ref bT, .ref bG, .ref bW, .int 0, .ref bH, .ref bO])), (bP, .inl (cP, 42, .inl uplace)), (bR, .inl (cR, 42, .inl urow)), (bS, .inl (cS, 2, .inl upts)), (bT, .inl (cT, 2, .inl utks)), (bG, .inl (cG, 2, .inl uglv)), (bW, .inl (cW, 2, .inl uwin)), (bH, .inl (cH, 12, .inl uheld)), (bO, .inl (cO, 8192, .inl utab))] H := hP
  have hD : va_D A [(b0, .inr (3, [.ref bP, .ref bR, .int udrawn, .int udealt, .int uon, .int uturn, .int uled, .int utr, .ref bS, .ref bT, .ref bG, .ref bW, .int 0, .ref bH, .ref bO])), (bP, .inl (cP, 42, .inl uplace)), (bR, .inl (cR, 42, .inl urow)), (bS, .inl (cS, 2, .inl upts)), (bT, .inl (cT, 2, .inl utks)), (bG, .inl (cG, 2, .inl uglv)), (bW, .inl (cW, 2, .inl uwin)), (bH, .inl (cH, 12, .inl uheld)), (bO, .inl (cO, 8192, .inl utab))] := hD
  refine lv_iconst (v := 0) hx hb dX3_choices_5 (by decide) ?_
  refine lv_istore_n (lv' := [(1, .int 0), (0, .ref b0)]) hx hb dX3_choices_6 rfl hl (by decide) rfl (fun ls hl => ?_)
  refine lv_iconst (v := 0) hx hb dX3_choices_7 (by decide) ?_
  refine lv_istore_n (lv' := [(2, .int 0), (1, .int 0), (0, .ref b0)]) hx hb dX3_choices_8 rfl hl (by decide) rfl (fun ls hl => ?_)
  exact loop9 42 0 0 rfl (by simp only [j_X3_choices]) (by simp only [j_X3_choices_uthr]) _ _ hP hD hS ls (lv_sub (l' := [(2, .int (nI 0)), (1, .int 0), (0, .ref b0)]) hl [0, 1, 2] rfl)

abbrev rX3_wouldTake : Room := { frames := 3, cells := 0, slots := 0, locals := 63 }
def j_X3_wouldTake (uturn : Int32) (uled : Int32) (utr : Int32) (x0 : Int32) : Int32 := (if j_X3_isCard x0 = 0 then 0 else (if uled < 0 then 0 else (if uled = x0 then 0 else (if j_X3_takes utr x0 uled = 0 then 1 - uturn else uturn))))
def j_X3_wouldTake_uthr (uled : Int32) (x0 : Int32) : Int32 := (if j_X3_isCard x0 = 0 then 1 else (if uled < 0 then 2 else (if uled = x0 then 2 else 0)))
theorem inX3_wouldTake_X3 : ∀ w ∈ u_ws RX3 TX3 15, w ∈ wsX3_wouldTake := by decide +kernel
set_option maxRecDepth 100000 in
set_option maxHeartbeats 8000000 in
theorem c_X3_wouldTake {l : Launch} {D : va_G} (b0 : Nat) (bP : Nat) (bR : Nat) (bS : Nat) (bT : Nat) (bG : Nat) (bW : Nat) (bH : Nat) (bO : Nat) (cP : ClassId) (cR : ClassId) (cS : ClassId) (cT : ClassId) (cG : ClassId) (cW : ClassId) (cH : ClassId) (cO : ClassId) (uplace : Nat → Int32) (urow : Nat → Int32) (upts : Nat → Int32) (utks : Nat → Int32) (uglv : Nat → Int32) (uwin : Nat → Int32) (uheld : Nat → Int32) (utab : Nat → Int32) (udrawn : Int32) (udealt : Int32) (uon : Int32) (uturn : Int32) (uled : Int32) (utr : Int32) (uthr : Int32) (x0 : Int32) : jWi l yX3_wouldTake wsX3_wouldTake rX3_wouldTake D [.ref b0, .int x0] (jM b0 bP bR bS bT bG bW bH bO cP cR cS cT cG cW cH cO uplace urow upts utks uglv uwin uheld utab udrawn udealt uon uturn uled utr uthr) [(cP, .int), (cR, .int), (cS, .int), (cT, .int), (cG, .int), (cW, .int), (cH, .int), (cO, .int)] (j_X3_wouldTake uturn uled utr x0) (jM b0 bP bR bS bT bG bW bH bO cP cR cS cT cG cW cH cO uplace urow upts utks uglv uwin uheld utab udrawn udealt uon uturn uled utr (j_X3_wouldTake_uthr uled x0)) := by
  refine jW_of (QQ := fun A => (jQi D (j_X3_wouldTake uturn uled utr x0) (jM b0 bP bR bS bT bG bW bH bO cP cR cS cT cG cW cH cO uplace urow upts utks uglv uwin uheld utab udrawn udealt uon uturn uled utr (j_X3_wouldTake_uthr uled x0)) [(cP, .int), (cR, .int), (cS, .int), (cT, .int), (cG, .int), (cW, .int), (cH, .int), (cO, .int)] A)) (cc := cX3_wouldTake) (maxL := 2) (ret := (some .int)) (by decide) rfl (Nat.le_of_ble_eq_true rfl) ?_
  intro p e s m below meth c ls A S hr hlocks hini hP hK hN hD hS hA hl
  obtain ⟨hx, hb, hml, hown, hts⟩ := id S
  have hl : lv_has ls 2 [(0, .ref b0), (1, .int x0)] := hl
  refine lv_aload_n hx hb dX3_wouldTake_0 rfl (lv_at hl 0 rfl) ?_
  refine lv_iload_n hx hb dX3_wouldTake_1 rfl (lv_at hl 1 rfl) ?_
  refine jr_callS (n := 1) (As := [.int x0]) (rest := [.ref b0]) S (c_X3_isCard x0) gX3_wouldTake_X3_isCard rfl (by decide +kernel) rfl ⟨⟨rfl, rfl⟩, ⟨Nat.le_of_ble_eq_true rfl, Nat.le_of_ble_eq_true rfl⟩, Nat.le_of_ble_eq_true rfl, Nat.le_of_ble_eq_true rfl⟩ hP hK hN [] [] rfl rfl (lv_nil hl) rfl (Nat.le_of_ble_eq_true rfl) dX3_wouldTake_2 ?_
  refine lv_if_ne (tgt := 12) hx hb dX3_wouldTake_5 (by decide) (fun c_1 => ?_) (fun c_1 => ?_)
  · skip
    refine lv_aload_n hx hb dX3_wouldTake_12 rfl (lv_at hl 0 rfl) ?_
    refine va_get (D := D) (ci := 3) (v := .int uled) (C := RX3) (T := TX3) (N := 15) hx hb hts inX3_wouldTake_X3 hown hK hP 0 rfl rfl 6 (by decide) (hts (.fieldLink RX3 16 "ArchivistTricksModel" "ledCard" "I") (by decide +kernel)) (fun _ h9 => h9) rfl dX3_wouldTake_13 ?_
    refine lv_if_lt (tgt := 27) hx hb dX3_wouldTake_16 (by decide) (fun c_2 => ?_) (fun c_2 => ?_)
    · skip
      refine lv_iconst (v := 2) hx hb dX3_wouldTake_27 (by decide) ?_
      refine lv_goto (tgt := 32) hx hb dX3_wouldTake_28 (by decide) ?_
      refine va_put (D := D) (ci := 3) (v := .int 2) (ty := .int) (C := RX3) (T := TX3) (N := 15) hx hb hts inX3_wouldTake_X3 tyX3 tyX3_ok nmX3 hown hK hP hD hS 0 rfl rfl 12 (by decide) (hts (.fieldLink RX3 41 "ArchivistTricksModel" "thrown" "I") (by decide +kernel)) (fun _ h9 => h9) rfl (by decide +kernel) rfl rfl (Nat.le_of_ble_eq_true rfl) dX3_wouldTake_32 (fun H locs hP hD hS => ?_)
      have hP : va_P D vwCl [(b0, .inr (3, [.ref bP, .ref bR, .int udrawn, .int udealt, .int uon, .int uturn, .int uled, .int utr, .ref bS, .ref bT, .ref bG, .ref bW, .int 2, .ref bH, .ref bO])), (bP, .inl (cP, 42, .inl uplace)), (bR, .inl (cR, 42, .inl urow)), (bS, .inl (cS, 2, .inl upts)), (bT, .inl (cT, 2, .inl utks)), (bG, .inl (cG, 2, .inl uglv)), (bW, .inl (cW, 2, .inl uwin)), (bH, .inl (cH, 12, .inl uheld)), (bO, .inl (cO, 8192, .inl utab))] H := hP
      have hD : va_D A [(b0, .inr (3, [.ref bP, .ref bR, .int udrawn, .int udealt, .int uon, .int uturn, .int uled, .int utr, .ref bS, .ref bT, .ref bG, .ref bW, .int 2, .ref bH, .ref bO])), (bP, .inl (cP, 42, .inl uplace)), (bR, .inl (cR, 42, .inl urow)), (bS, .inl (cS, 2, .inl upts)), (bT, .inl (cT, 2, .inl utks)), (bG, .inl (cG, 2, .inl uglv)), (bW, .inl (cW, 2, .inl uwin)), (bH, .inl (cH, 12, .inl uheld)), (bO, .inl (cO, 8192, .inl utab))] := hD
      refine lv_aload_n hx hb dX3_wouldTake_35 rfl (lv_at hl 0 rfl) ?_
      refine va_get (D := D) (ci := 3) (v := .int 2) (C := RX3) (T := TX3) (N := 15) hx hb hts inX3_wouldTake_X3 hown hK hP 0 rfl rfl 12 (by decide) (hts (.fieldLink RX3 41 "ArchivistTricksModel" "thrown" "I") (by decide +kernel)) (fun _ h9 => h9) rfl dX3_wouldTake_36 ?_
      refine lv_if_eq (tgt := 46) hx hb dX3_wouldTake_39 (by decide) (fun c_ => absurd c_ (by decide)) (fun _ => ?_)
      refine lv_iconst (v := 0) hx hb dX3_wouldTake_42 (by decide) ?_
      refine lv_goto (tgt := 71) hx hb dX3_wouldTake_43 (by decide) ?_
      exact jw_iret hx hb hr hlocks hK hP hD hS dX3_wouldTake_71 (by  simp only [j_X3_wouldTake, if_neg c_1, if_pos c_2]) (by  simp only [j_X3_wouldTake_uthr, if_neg c_1, if_pos c_2])
    · skip
      refine lv_aload_n hx hb dX3_wouldTake_19 rfl (lv_at hl 0 rfl) ?_
      refine va_get (D := D) (ci := 3) (v := .int uled) (C := RX3) (T := TX3) (N := 15) hx hb hts inX3_wouldTake_X3 hown hK hP 0 rfl rfl 6 (by decide) (hts (.fieldLink RX3 16 "ArchivistTricksModel" "ledCard" "I") (by decide +kernel)) (fun _ h9 => h9) rfl dX3_wouldTake_20 ?_
      refine lv_iload_n hx hb dX3_wouldTake_23 rfl (lv_at hl 1 rfl) ?_
      refine lv_icmp_ne (tgt := 31) hx hb dX3_wouldTake_24 (by decide) (fun c_3 => ?_) (fun c_3 => ?_)
      · skip
        refine lv_iconst (v := 0) hx hb dX3_wouldTake_31 (by decide) ?_
        refine va_put (D := D) (ci := 3) (v := .int 0) (ty := .int) (C := RX3) (T := TX3) (N := 15) hx hb hts inX3_wouldTake_X3 tyX3 tyX3_ok nmX3 hown hK hP hD hS 0 rfl rfl 12 (by decide) (hts (.fieldLink RX3 41 "ArchivistTricksModel" "thrown" "I") (by decide +kernel)) (fun _ h9 => h9) rfl (by decide +kernel) rfl rfl (Nat.le_of_ble_eq_true rfl) dX3_wouldTake_32 (fun H locs hP hD hS => ?_)
        have hP : va_P D vwCl [(b0, .inr (3, [.ref bP, .ref bR, .int udrawn, .int udealt, .int uon, .int uturn, .int uled, .int utr, .ref bS, .ref bT, .ref bG, .ref bW, .int 0, .ref bH, .ref bO])), (bP, .inl (cP, 42, .inl uplace)), (bR, .inl (cR, 42, .inl urow)), (bS, .inl (cS, 2, .inl upts)), (bT, .inl (cT, 2, .inl utks)), (bG, .inl (cG, 2, .inl uglv)), (bW, .inl (cW, 2, .inl uwin)), (bH, .inl (cH, 12, .inl uheld)), (bO, .inl (cO, 8192, .inl utab))] H := hP
        have hD : va_D A [(b0, .inr (3, [.ref bP, .ref bR, .int udrawn, .int udealt, .int uon, .int uturn, .int uled, .int utr, .ref bS, .ref bT, .ref bG, .ref bW, .int 0, .ref bH, .ref bO])), (bP, .inl (cP, 42, .inl uplace)), (bR, .inl (cR, 42, .inl urow)), (bS, .inl (cS, 2, .inl upts)), (bT, .inl (cT, 2, .inl utks)), (bG, .inl (cG, 2, .inl uglv)), (bW, .inl (cW, 2, .inl uwin)), (bH, .inl (cH, 12, .inl uheld)), (bO, .inl (cO, 8192, .inl utab))] := hD
        refine lv_aload_n hx hb dX3_wouldTake_35 rfl (lv_at hl 0 rfl) ?_
        refine va_get (D := D) (ci := 3) (v := .int 0) (C := RX3) (T := TX3) (N := 15) hx hb hts inX3_wouldTake_X3 hown hK hP 0 rfl rfl 12 (by decide) (hts (.fieldLink RX3 41 "ArchivistTricksModel" "thrown" "I") (by decide +kernel)) (fun _ h9 => h9) rfl dX3_wouldTake_36 ?_
        refine lv_if_eq (tgt := 46) hx hb dX3_wouldTake_39 (by decide) (fun _ => ?_) (fun c_ => absurd (by decide) c_)
        refine lv_aload_n hx hb dX3_wouldTake_46 rfl (lv_at hl 0 rfl) ?_
        refine lv_iload_n hx hb dX3_wouldTake_47 rfl (lv_at hl 1 rfl) ?_
        refine lv_aload_n hx hb dX3_wouldTake_48 rfl (lv_at hl 0 rfl) ?_
        refine va_get (D := D) (ci := 3) (v := .int uled) (C := RX3) (T := TX3) (N := 15) hx hb hts inX3_wouldTake_X3 hown hK hP 0 rfl rfl 6 (by decide) (hts (.fieldLink RX3 16 "ArchivistTricksModel" "ledCard" "I") (by decide +kernel)) (fun _ h9 => h9) rfl dX3_wouldTake_49 ?_
        refine jr_callV (n := 2) (C := RX3) (As := [.int x0, .int uled]) (rest := []) S (c_X3_takes b0 bP bR bS bT bG bW bH bO cP cR cS cT cG cW cH cO uplace urow upts utks uglv uwin uheld utab udrawn udealt uon uturn uled utr 0 x0 uled) gX3_wouldTake_X3_takes rfl (by decide +kernel) rfl ⟨⟨rfl, rfl⟩, ⟨Nat.le_of_ble_eq_true rfl, Nat.le_of_ble_eq_true rfl⟩, Nat.le_of_ble_eq_true rfl, Nat.le_of_ble_eq_true rfl⟩ hP hK hN [0, 1, 2, 3, 4, 5, 6, 7, 8] [0, 1, 2, 3, 4, 5, 6, 7] rfl rfl 0 3 rfl rfl rfl (lv_nil hl) rfl (Nat.le_of_ble_eq_true rfl) dX3_wouldTake_52 ?_
        refine lv_if_eq (tgt := 65) hx hb dX3_wouldTake_55 (by decide) (fun c_4 => ?_) (fun c_4 => ?_)
        · skip
          refine lv_iconst (v := 1) hx hb dX3_wouldTake_65 (by decide) ?_
          refine lv_aload_n hx hb dX3_wouldTake_66 rfl (lv_at hl 0 rfl) ?_
          refine va_get (D := D) (ci := 3) (v := .int uturn) (C := RX3) (T := TX3) (N := 15) hx hb hts inX3_wouldTake_X3 hown hK hP 0 rfl rfl 5 (by decide) (hts (.fieldLink RX3 69 "ArchivistTricksModel" "turn" "I") (by decide +kernel)) (fun _ h9 => h9) rfl dX3_wouldTake_67 ?_
          refine lv_isub hx hb dX3_wouldTake_70 ?_
          exact jw_iret hx hb hr hlocks hK hP hD hS dX3_wouldTake_71 (by  simp only [j_X3_wouldTake, if_neg c_1, if_neg c_2, if_neg c_3, if_pos c_4]) (by  simp only [j_X3_wouldTake_uthr, if_neg c_1, if_neg c_2, if_neg c_3, if_pos c_4])
        · skip
          refine lv_aload_n hx hb dX3_wouldTake_58 rfl (lv_at hl 0 rfl) ?_
          refine va_get (D := D) (ci := 3) (v := .int uturn) (C := RX3) (T := TX3) (N := 15) hx hb hts inX3_wouldTake_X3 hown hK hP 0 rfl rfl 5 (by decide) (hts (.fieldLink RX3 69 "ArchivistTricksModel" "turn" "I") (by decide +kernel)) (fun _ h9 => h9) rfl dX3_wouldTake_59 ?_
          refine lv_goto (tgt := 71) hx hb dX3_wouldTake_62 (by decide) ?_
          exact jw_iret hx hb hr hlocks hK hP hD hS dX3_wouldTake_71 (by  simp only [j_X3_wouldTake, if_neg c_1, if_neg c_2, if_neg c_3, if_neg c_4]) (by  simp only [j_X3_wouldTake_uthr, if_neg c_1, if_neg c_2, if_neg c_3, if_neg c_4])
      · skip
        refine lv_iconst (v := 2) hx hb dX3_wouldTake_27 (by decide) ?_
        refine lv_goto (tgt := 32) hx hb dX3_wouldTake_28 (by decide) ?_
        refine va_put (D := D) (ci := 3) (v := .int 2) (ty := .int) (C := RX3) (T := TX3) (N := 15) hx hb hts inX3_wouldTake_X3 tyX3 tyX3_ok nmX3 hown hK hP hD hS 0 rfl rfl 12 (by decide) (hts (.fieldLink RX3 41 "ArchivistTricksModel" "thrown" "I") (by decide +kernel)) (fun _ h9 => h9) rfl (by decide +kernel) rfl rfl (Nat.le_of_ble_eq_true rfl) dX3_wouldTake_32 (fun H locs hP hD hS => ?_)
        have hP : va_P D vwCl [(b0, .inr (3, [.ref bP, .ref bR, .int udrawn, .int udealt, .int uon, .int uturn, .int uled, .int utr, .ref bS, .ref bT, .ref bG, .ref bW, .int 2, .ref bH, .ref bO])), (bP, .inl (cP, 42, .inl uplace)), (bR, .inl (cR, 42, .inl urow)), (bS, .inl (cS, 2, .inl upts)), (bT, .inl (cT, 2, .inl utks)), (bG, .inl (cG, 2, .inl uglv)), (bW, .inl (cW, 2, .inl uwin)), (bH, .inl (cH, 12, .inl uheld)), (bO, .inl (cO, 8192, .inl utab))] H := hP
        have hD : va_D A [(b0, .inr (3, [.ref bP, .ref bR, .int udrawn, .int udealt, .int uon, .int uturn, .int uled, .int utr, .ref bS, .ref bT, .ref bG, .ref bW, .int 2, .ref bH, .ref bO])), (bP, .inl (cP, 42, .inl uplace)), (bR, .inl (cR, 42, .inl urow)), (bS, .inl (cS, 2, .inl upts)), (bT, .inl (cT, 2, .inl utks)), (bG, .inl (cG, 2, .inl uglv)), (bW, .inl (cW, 2, .inl uwin)), (bH, .inl (cH, 12, .inl uheld)), (bO, .inl (cO, 8192, .inl utab))] := hD
        refine lv_aload_n hx hb dX3_wouldTake_35 rfl (lv_at hl 0 rfl) ?_
        refine va_get (D := D) (ci := 3) (v := .int 2) (C := RX3) (T := TX3) (N := 15) hx hb hts inX3_wouldTake_X3 hown hK hP 0 rfl rfl 12 (by decide) (hts (.fieldLink RX3 41 "ArchivistTricksModel" "thrown" "I") (by decide +kernel)) (fun _ h9 => h9) rfl dX3_wouldTake_36 ?_
        refine lv_if_eq (tgt := 46) hx hb dX3_wouldTake_39 (by decide) (fun c_ => absurd c_ (by decide)) (fun _ => ?_)
        refine lv_iconst (v := 0) hx hb dX3_wouldTake_42 (by decide) ?_
        refine lv_goto (tgt := 71) hx hb dX3_wouldTake_43 (by decide) ?_
        exact jw_iret hx hb hr hlocks hK hP hD hS dX3_wouldTake_71 (by  simp only [j_X3_wouldTake, if_neg c_1, if_neg c_2, if_pos c_3]) (by  simp only [j_X3_wouldTake_uthr, if_neg c_1, if_neg c_2, if_pos c_3])
  · skip
    refine lv_iconst (v := 1) hx hb dX3_wouldTake_8 (by decide) ?_
    refine lv_goto (tgt := 32) hx hb dX3_wouldTake_9 (by decide) ?_
    refine va_put (D := D) (ci := 3) (v := .int 1) (ty := .int) (C := RX3) (T := TX3) (N := 15) hx hb hts inX3_wouldTake_X3 tyX3 tyX3_ok nmX3 hown hK hP hD hS 0 rfl rfl 12 (by decide) (hts (.fieldLink RX3 41 "ArchivistTricksModel" "thrown" "I") (by decide +kernel)) (fun _ h9 => h9) rfl (by decide +kernel) rfl rfl (Nat.le_of_ble_eq_true rfl) dX3_wouldTake_32 (fun H locs hP hD hS => ?_)
    have hP : va_P D vwCl [(b0, .inr (3, [.ref bP, .ref bR, .int udrawn, .int udealt, .int uon, .int uturn, .int uled, .int utr, .ref bS, .ref bT, .ref bG, .ref bW, .int 1, .ref bH, .ref bO])), (bP, .inl (cP, 42, .inl uplace)), (bR, .inl (cR, 42, .inl urow)), (bS, .inl (cS, 2, .inl upts)), (bT, .inl (cT, 2, .inl utks)), (bG, .inl (cG, 2, .inl uglv)), (bW, .inl (cW, 2, .inl uwin)), (bH, .inl (cH, 12, .inl uheld)), (bO, .inl (cO, 8192, .inl utab))] H := hP
    have hD : va_D A [(b0, .inr (3, [.ref bP, .ref bR, .int udrawn, .int udealt, .int uon, .int uturn, .int uled, .int utr, .ref bS, .ref bT, .ref bG, .ref bW, .int 1, .ref bH, .ref bO])), (bP, .inl (cP, 42, .inl uplace)), (bR, .inl (cR, 42, .inl urow)), (bS, .inl (cS, 2, .inl upts)), (bT, .inl (cT, 2, .inl utks)), (bG, .inl (cG, 2, .inl uglv)), (bW, .inl (cW, 2, .inl uwin)), (bH, .inl (cH, 12, .inl uheld)), (bO, .inl (cO, 8192, .inl utab))] := hD
    refine lv_aload_n hx hb dX3_wouldTake_35 rfl (lv_at hl 0 rfl) ?_
    refine va_get (D := D) (ci := 3) (v := .int 1) (C := RX3) (T := TX3) (N := 15) hx hb hts inX3_wouldTake_X3 hown hK hP 0 rfl rfl 12 (by decide) (hts (.fieldLink RX3 41 "ArchivistTricksModel" "thrown" "I") (by decide +kernel)) (fun _ h9 => h9) rfl dX3_wouldTake_36 ?_
    refine lv_if_eq (tgt := 46) hx hb dX3_wouldTake_39 (by decide) (fun c_ => absurd c_ (by decide)) (fun _ => ?_)
    refine lv_iconst (v := 0) hx hb dX3_wouldTake_42 (by decide) ?_
    refine lv_goto (tgt := 71) hx hb dX3_wouldTake_43 (by decide) ?_
    exact jw_iret hx hb hr hlocks hK hP hD hS dX3_wouldTake_71 (by  simp only [j_X3_wouldTake, if_pos c_1]) (by  simp only [j_X3_wouldTake_uthr, if_pos c_1])

abbrev rX3_wonByFirst : Room := { frames := 0, cells := 0, slots := 0, locals := 0 }
def j_X3_wonByFirst (uwin : Nat → Int32) : Int32 := uwin (0 : Int32).toNatClampNeg
def j_X3_wonByFirst_uthr  : Int32 := 0
theorem inX3_wonByFirst_X3 : ∀ w ∈ u_ws RX3 TX3 15, w ∈ wsX3_wonByFirst := by decide +kernel
set_option maxRecDepth 100000 in
set_option maxHeartbeats 8000000 in
theorem c_X3_wonByFirst {l : Launch} {D : va_G} (b0 : Nat) (bP : Nat) (bR : Nat) (bS : Nat) (bT : Nat) (bG : Nat) (bW : Nat) (bH : Nat) (bO : Nat) (cP : ClassId) (cR : ClassId) (cS : ClassId) (cT : ClassId) (cG : ClassId) (cW : ClassId) (cH : ClassId) (cO : ClassId) (uplace : Nat → Int32) (urow : Nat → Int32) (upts : Nat → Int32) (utks : Nat → Int32) (uglv : Nat → Int32) (uwin : Nat → Int32) (uheld : Nat → Int32) (utab : Nat → Int32) (udrawn : Int32) (udealt : Int32) (uon : Int32) (uturn : Int32) (uled : Int32) (utr : Int32) (uthr : Int32) : jWi l yX3_wonByFirst wsX3_wonByFirst rX3_wonByFirst D [.ref b0] (jM b0 bP bR bS bT bG bW bH bO cP cR cS cT cG cW cH cO uplace urow upts utks uglv uwin uheld utab udrawn udealt uon uturn uled utr uthr) [(cP, .int), (cR, .int), (cS, .int), (cT, .int), (cG, .int), (cW, .int), (cH, .int), (cO, .int)] (j_X3_wonByFirst uwin) (jM b0 bP bR bS bT bG bW bH bO cP cR cS cT cG cW cH cO uplace urow upts utks uglv uwin uheld utab udrawn udealt uon uturn uled utr (j_X3_wonByFirst_uthr)) := by
  refine jW_of (QQ := fun A => (jQi D (j_X3_wonByFirst uwin) (jM b0 bP bR bS bT bG bW bH bO cP cR cS cT cG cW cH cO uplace urow upts utks uglv uwin uheld utab udrawn udealt uon uturn uled utr (j_X3_wonByFirst_uthr)) [(cP, .int), (cR, .int), (cS, .int), (cT, .int), (cG, .int), (cW, .int), (cH, .int), (cO, .int)] A)) (cc := cX3_wonByFirst) (maxL := 1) (ret := (some .int)) (by decide) rfl (Nat.le_of_ble_eq_true rfl) ?_
  intro p e s m below meth c ls A S hr hlocks hini hP hK hN hD hS hA hl
  obtain ⟨hx, hb, hml, hown, hts⟩ := id S
  have hl : lv_has ls 1 [(0, .ref b0)] := hl
  refine lv_aload_n hx hb dX3_wonByFirst_0 rfl (lv_at hl 0 rfl) ?_
  refine lv_iconst (v := 0) hx hb dX3_wonByFirst_1 (by decide) ?_
  refine va_put (D := D) (ci := 3) (v := .int 0) (ty := .int) (C := RX3) (T := TX3) (N := 15) hx hb hts inX3_wonByFirst_X3 tyX3 tyX3_ok nmX3 hown hK hP hD hS 0 rfl rfl 12 (by decide) (hts (.fieldLink RX3 41 "ArchivistTricksModel" "thrown" "I") (by decide +kernel)) (fun _ h9 => h9) rfl (by decide +kernel) rfl rfl (Nat.le_of_ble_eq_true rfl) dX3_wonByFirst_2 (fun H locs hP hD hS => ?_)
  have hP : va_P D vwCl [(b0, .inr (3, [.ref bP, .ref bR, .int udrawn, .int udealt, .int uon, .int uturn, .int uled, .int utr, .ref bS, .ref bT, .ref bG, .ref bW, .int 0, .ref bH, .ref bO])), (bP, .inl (cP, 42, .inl uplace)), (bR, .inl (cR, 42, .inl urow)), (bS, .inl (cS, 2, .inl upts)), (bT, .inl (cT, 2, .inl utks)), (bG, .inl (cG, 2, .inl uglv)), (bW, .inl (cW, 2, .inl uwin)), (bH, .inl (cH, 12, .inl uheld)), (bO, .inl (cO, 8192, .inl utab))] H := hP
  have hD : va_D A [(b0, .inr (3, [.ref bP, .ref bR, .int udrawn, .int udealt, .int uon, .int uturn, .int uled, .int utr, .ref bS, .ref bT, .ref bG, .ref bW, .int 0, .ref bH, .ref bO])), (bP, .inl (cP, 42, .inl uplace)), (bR, .inl (cR, 42, .inl urow)), (bS, .inl (cS, 2, .inl upts)), (bT, .inl (cT, 2, .inl utks)), (bG, .inl (cG, 2, .inl uglv)), (bW, .inl (cW, 2, .inl uwin)), (bH, .inl (cH, 12, .inl uheld)), (bO, .inl (cO, 8192, .inl utab))] := hD
  refine lv_aload_n hx hb dX3_wonByFirst_5 rfl (lv_at hl 0 rfl) ?_
  refine va_get (D := D) (ci := 3) (v := .ref bW) (C := RX3) (T := TX3) (N := 15) hx hb hts inX3_wonByFirst_X3 hown hK hP 0 rfl rfl 11 (by decide) (hts (.fieldLink RX3 32 "ArchivistTricksModel" "wins" "[I") (by decide +kernel)) (fun _ h9 => h9) rfl dX3_wonByFirst_6 ?_
  refine lv_iconst (v := 0) hx hb dX3_wonByFirst_9 (by decide) ?_
  refine va_iald hx hb hK hP 6 5 rfl rfl (i := 0) (by unfold vp_in; decide) dX3_wonByFirst_10 ?_
  exact jw_iret hx hb hr hlocks hK hP hD hS dX3_wonByFirst_11 (by  simp only [j_X3_wonByFirst]) (by  simp only [j_X3_wonByFirst_uthr])

abbrev rX3_wonBySecond : Room := { frames := 0, cells := 0, slots := 0, locals := 0 }
def j_X3_wonBySecond (uwin : Nat → Int32) : Int32 := uwin (1 : Int32).toNatClampNeg
def j_X3_wonBySecond_uthr  : Int32 := 0
theorem inX3_wonBySecond_X3 : ∀ w ∈ u_ws RX3 TX3 15, w ∈ wsX3_wonBySecond := by decide +kernel
set_option maxRecDepth 100000 in
set_option maxHeartbeats 8000000 in
theorem c_X3_wonBySecond {l : Launch} {D : va_G} (b0 : Nat) (bP : Nat) (bR : Nat) (bS : Nat) (bT : Nat) (bG : Nat) (bW : Nat) (bH : Nat) (bO : Nat) (cP : ClassId) (cR : ClassId) (cS : ClassId) (cT : ClassId) (cG : ClassId) (cW : ClassId) (cH : ClassId) (cO : ClassId) (uplace : Nat → Int32) (urow : Nat → Int32) (upts : Nat → Int32) (utks : Nat → Int32) (uglv : Nat → Int32) (uwin : Nat → Int32) (uheld : Nat → Int32) (utab : Nat → Int32) (udrawn : Int32) (udealt : Int32) (uon : Int32) (uturn : Int32) (uled : Int32) (utr : Int32) (uthr : Int32) : jWi l yX3_wonBySecond wsX3_wonBySecond rX3_wonBySecond D [.ref b0] (jM b0 bP bR bS bT bG bW bH bO cP cR cS cT cG cW cH cO uplace urow upts utks uglv uwin uheld utab udrawn udealt uon uturn uled utr uthr) [(cP, .int), (cR, .int), (cS, .int), (cT, .int), (cG, .int), (cW, .int), (cH, .int), (cO, .int)] (j_X3_wonBySecond uwin) (jM b0 bP bR bS bT bG bW bH bO cP cR cS cT cG cW cH cO uplace urow upts utks uglv uwin uheld utab udrawn udealt uon uturn uled utr (j_X3_wonBySecond_uthr)) := by
  refine jW_of (QQ := fun A => (jQi D (j_X3_wonBySecond uwin) (jM b0 bP bR bS bT bG bW bH bO cP cR cS cT cG cW cH cO uplace urow upts utks uglv uwin uheld utab udrawn udealt uon uturn uled utr (j_X3_wonBySecond_uthr)) [(cP, .int), (cR, .int), (cS, .int), (cT, .int), (cG, .int), (cW, .int), (cH, .int), (cO, .int)] A)) (cc := cX3_wonBySecond) (maxL := 1) (ret := (some .int)) (by decide) rfl (Nat.le_of_ble_eq_true rfl) ?_
  intro p e s m below meth c ls A S hr hlocks hini hP hK hN hD hS hA hl
  obtain ⟨hx, hb, hml, hown, hts⟩ := id S
  have hl : lv_has ls 1 [(0, .ref b0)] := hl
  refine lv_aload_n hx hb dX3_wonBySecond_0 rfl (lv_at hl 0 rfl) ?_
  refine lv_iconst (v := 0) hx hb dX3_wonBySecond_1 (by decide) ?_
  refine va_put (D := D) (ci := 3) (v := .int 0) (ty := .int) (C := RX3) (T := TX3) (N := 15) hx hb hts inX3_wonBySecond_X3 tyX3 tyX3_ok nmX3 hown hK hP hD hS 0 rfl rfl 12 (by decide) (hts (.fieldLink RX3 41 "ArchivistTricksModel" "thrown" "I") (by decide +kernel)) (fun _ h9 => h9) rfl (by decide +kernel) rfl rfl (Nat.le_of_ble_eq_true rfl) dX3_wonBySecond_2 (fun H locs hP hD hS => ?_)
  have hP : va_P D vwCl [(b0, .inr (3, [.ref bP, .ref bR, .int udrawn, .int udealt, .int uon, .int uturn, .int uled, .int utr, .ref bS, .ref bT, .ref bG, .ref bW, .int 0, .ref bH, .ref bO])), (bP, .inl (cP, 42, .inl uplace)), (bR, .inl (cR, 42, .inl urow)), (bS, .inl (cS, 2, .inl upts)), (bT, .inl (cT, 2, .inl utks)), (bG, .inl (cG, 2, .inl uglv)), (bW, .inl (cW, 2, .inl uwin)), (bH, .inl (cH, 12, .inl uheld)), (bO, .inl (cO, 8192, .inl utab))] H := hP
  have hD : va_D A [(b0, .inr (3, [.ref bP, .ref bR, .int udrawn, .int udealt, .int uon, .int uturn, .int uled, .int utr, .ref bS, .ref bT, .ref bG, .ref bW, .int 0, .ref bH, .ref bO])), (bP, .inl (cP, 42, .inl uplace)), (bR, .inl (cR, 42, .inl urow)), (bS, .inl (cS, 2, .inl upts)), (bT, .inl (cT, 2, .inl utks)), (bG, .inl (cG, 2, .inl uglv)), (bW, .inl (cW, 2, .inl uwin)), (bH, .inl (cH, 12, .inl uheld)), (bO, .inl (cO, 8192, .inl utab))] := hD
  refine lv_aload_n hx hb dX3_wonBySecond_5 rfl (lv_at hl 0 rfl) ?_
  refine va_get (D := D) (ci := 3) (v := .ref bW) (C := RX3) (T := TX3) (N := 15) hx hb hts inX3_wonBySecond_X3 hown hK hP 0 rfl rfl 11 (by decide) (hts (.fieldLink RX3 32 "ArchivistTricksModel" "wins" "[I") (by decide +kernel)) (fun _ h9 => h9) rfl dX3_wonBySecond_6 ?_
  refine lv_iconst (v := 1) hx hb dX3_wonBySecond_9 (by decide) ?_
  refine va_iald hx hb hK hP 6 5 rfl rfl (i := 1) (by unfold vp_in; decide) dX3_wonBySecond_10 ?_
  exact jw_iret hx hb hr hlocks hK hP hD hS dX3_wonBySecond_11 (by  simp only [j_X3_wonBySecond]) (by  simp only [j_X3_wonBySecond_uthr])

