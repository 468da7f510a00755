/-! THE MODEL: methods that read (laid by wip/whole/rows.py) -/
abbrev rX3_isCard : Room := { frames := 0, cells := 0, slots := 0, locals := 0 }
def j_X3_isCard (x0 : Int32) : Int32 := (if x0 < 0 then 0 else (if 42 ≤ x0 then 0 else 1))
set_option maxRecDepth 100000 in
set_option maxHeartbeats 4000000 in
theorem c_X3_isCard {l : Launch} {D : va_G} (x0 : Int32) : jR l yX3_isCard wsX3_isCard rX3_isCard D [.int x0] [] [] (.int (j_X3_isCard x0)) := by
  refine jR_of (cc := cX3_isCard) (maxL := 1) (ret := (some .boolean)) (by decide) rfl ⟨by decide, by decide⟩ ?_
  intro p e s m below meth c ls S hr hlocks hP hK hN hl
  obtain ⟨hx, hb, hml, hown, hts⟩ := id S
  have hl : lv_has ls 1 [(0, .int x0)] := hl
  refine lv_iload_n hx hb dX3_isCard_0 rfl (lv_at hl 0 rfl) ?_
  refine lv_if_lt (tgt := 14) hx hb dX3_isCard_1 (by decide) (fun c_1 => ?_) (fun c_1 => ?_)
  · skip
    refine lv_iconst (v := 0) hx hb dX3_isCard_14 (by decide) ?_
    exact jr_zret hx hb hr hlocks dX3_isCard_15 rfl (by simp only [j_X3_isCard, if_pos c_1])
  · skip
    refine lv_iload_n hx hb dX3_isCard_4 rfl (lv_at hl 0 rfl) ?_
    refine lv_bipush (v := 42) hx hb dX3_isCard_5 (by decide) ?_
    refine lv_icmp_ge (tgt := 14) hx hb dX3_isCard_7 (by decide) (fun c_2 => ?_) (fun c_2 => ?_)
    · skip
      refine lv_iconst (v := 0) hx hb dX3_isCard_14 (by decide) ?_
      exact jr_zret hx hb hr hlocks dX3_isCard_15 rfl (by simp only [j_X3_isCard, if_neg c_1, if_pos c_2])
    · skip
      refine lv_iconst (v := 1) hx hb dX3_isCard_10 (by decide) ?_
      refine lv_goto (tgt := 15) hx hb dX3_isCard_11 (by decide) ?_
      exact jr_zret hx hb hr hlocks dX3_isCard_15 rfl (by simp only [j_X3_isCard, if_neg c_1, if_neg c_2])

abbrev rX3_isArchivist : Room := { frames := 0, cells := 0, slots := 0, locals := 0 }
def j_X3_isArchivist (x0 : Int32) : Int32 := (if x0 = 0 then 1 else (if x0 = 1 then 1 else 0))
set_option maxRecDepth 100000 in
set_option maxHeartbeats 4000000 in
theorem c_X3_isArchivist {l : Launch} {D : va_G} (x0 : Int32) : jR l yX3_isArchivist wsX3_isArchivist rX3_isArchivist D [.int x0] [] [] (.int (j_X3_isArchivist x0)) := by
  refine jR_of (cc := cX3_isArchivist) (maxL := 1) (ret := (some .boolean)) (by decide) rfl ⟨by decide, by decide⟩ ?_
  intro p e s m below meth c ls S hr hlocks hP hK hN hl
  obtain ⟨hx, hb, hml, hown, hts⟩ := id S
  have hl : lv_has ls 1 [(0, .int x0)] := hl
  refine lv_iload_n hx hb dX3_isArchivist_0 rfl (lv_at hl 0 rfl) ?_
  refine lv_if_eq (tgt := 9) hx hb dX3_isArchivist_1 (by decide) (fun c_1 => ?_) (fun c_1 => ?_)
  · skip
    refine lv_iconst (v := 1) hx hb dX3_isArchivist_9 (by decide) ?_
    refine lv_goto (tgt := 14) hx hb dX3_isArchivist_10 (by decide) ?_
    exact jr_zret hx hb hr hlocks dX3_isArchivist_14 rfl (by simp only [j_X3_isArchivist, if_pos c_1])
  · skip
    refine lv_iload_n hx hb dX3_isArchivist_4 rfl (lv_at hl 0 rfl) ?_
    refine lv_iconst (v := 1) hx hb dX3_isArchivist_5 (by decide) ?_
    refine lv_icmp_ne (tgt := 13) hx hb dX3_isArchivist_6 (by decide) (fun c_2 => ?_) (fun c_2 => ?_)
    · skip
      refine lv_iconst (v := 0) hx hb dX3_isArchivist_13 (by decide) ?_
      exact jr_zret hx hb hr hlocks dX3_isArchivist_14 rfl (by simp only [j_X3_isArchivist, if_neg c_1, if_neg c_2])
    · skip
      refine lv_iconst (v := 1) hx hb dX3_isArchivist_9 (by decide) ?_
      refine lv_goto (tgt := 14) hx hb dX3_isArchivist_10 (by decide) ?_
      exact jr_zret hx hb hr hlocks dX3_isArchivist_14 rfl (by simp only [j_X3_isArchivist, if_neg c_1, if_pos c_2])

abbrev rX3_isMildew : Room := { frames := 0, cells := 0, slots := 0, locals := 0 }
def j_X3_isMildew (x0 : Int32) : Int32 := (if x0 < 40 then 0 else 1)
set_option maxRecDepth 100000 in
set_option maxHeartbeats 4000000 in
theorem c_X3_isMildew {l : Launch} {D : va_G} (x0 : Int32) : jR l yX3_isMildew wsX3_isMildew rX3_isMildew D [.int x0] [] [] (.int (j_X3_isMildew x0)) := by
  refine jR_of (cc := cX3_isMildew) (maxL := 1) (ret := (some .boolean)) (by decide) rfl ⟨by decide, by decide⟩ ?_
  intro p e s m below meth c ls S hr hlocks hP hK hN hl
  obtain ⟨hx, hb, hml, hown, hts⟩ := id S
  have hl : lv_has ls 1 [(0, .int x0)] := hl
  refine lv_iload_n hx hb dX3_isMildew_0 rfl (lv_at hl 0 rfl) ?_
  refine lv_bipush (v := 40) hx hb dX3_isMildew_1 (by decide) ?_
  refine lv_icmp_lt (tgt := 10) hx hb dX3_isMildew_3 (by decide) (fun c_1 => ?_) (fun c_1 => ?_)
  · skip
    refine lv_iconst (v := 0) hx hb dX3_isMildew_10 (by decide) ?_
    exact jr_zret hx hb hr hlocks dX3_isMildew_11 rfl (by simp only [j_X3_isMildew, if_pos c_1])
  · skip
    refine lv_iconst (v := 1) hx hb dX3_isMildew_6 (by decide) ?_
    refine lv_goto (tgt := 11) hx hb dX3_isMildew_7 (by decide) ?_
    exact jr_zret hx hb hr hlocks dX3_isMildew_11 rfl (by simp only [j_X3_isMildew, if_neg c_1])

abbrev rX3_provenance : Room := { frames := 0, cells := 0, slots := 0, locals := 0 }
def j_X3_provenance (x0 : Int32) : Int32 := x0 / 10
set_option maxRecDepth 100000 in
set_option maxHeartbeats 4000000 in
theorem c_X3_provenance {l : Launch} {D : va_G} (x0 : Int32) : jR l yX3_provenance wsX3_provenance rX3_provenance D [.int x0] [] [] (.int (j_X3_provenance x0)) := by
  refine jR_of (cc := cX3_provenance) (maxL := 1) (ret := (some .int)) (by decide) rfl ⟨by decide, by decide⟩ ?_
  intro p e s m below meth c ls S hr hlocks hP hK hN hl
  obtain ⟨hx, hb, hml, hown, hts⟩ := id S
  have hl : lv_has ls 1 [(0, .int x0)] := hl
  refine lv_iload_n hx hb dX3_provenance_0 rfl (lv_at hl 0 rfl) ?_
  refine lv_bipush (v := 10) hx hb dX3_provenance_1 (by decide) ?_
  refine lv_idiv hx hb dX3_provenance_3 (by decide) ?_
  exact jr_iret hx hb hr hlocks dX3_provenance_4 (by simp only [j_X3_provenance])

abbrev rX3_worth : Room := { frames := 1, cells := 0, slots := 0, locals := 20 }
def j_X3_worth (x0 : Int32) : Int32 := (if j_X3_isMildew x0 = 0 then 10 - (x0 - x0 / 10 * 10) else (-5))
set_option maxRecDepth 100000 in
set_option maxHeartbeats 4000000 in
theorem c_X3_worth {l : Launch} {D : va_G} (x0 : Int32) : jR l yX3_worth wsX3_worth rX3_worth D [.int x0] [] [] (.int (j_X3_worth x0)) := by
  refine jR_of (cc := cX3_worth) (maxL := 1) (ret := (some .int)) (by decide) rfl ⟨by decide, by decide⟩ ?_
  intro p e s m below meth c ls S hr hlocks hP hK hN hl
  obtain ⟨hx, hb, hml, hown, hts⟩ := id S
  have hl : lv_has ls 1 [(0, .int x0)] := hl
  refine lv_iload_n hx hb dX3_worth_0 rfl (lv_at hl 0 rfl) ?_
  refine jr_callS (As := [.int x0]) (rest := []) S (c_X3_isMildew x0) gX3_worth_X3_isMildew rfl (by decide +kernel) ⟨⟨rfl, rfl⟩, ⟨Nat.le_of_ble_eq_true rfl, Nat.le_of_ble_eq_true rfl⟩, Nat.le_of_ble_eq_true rfl, Nat.le_of_ble_eq_true rfl⟩ hP hK hN [] [] rfl rfl (lv_nil hl) rfl (Nat.le_of_ble_eq_true rfl) dX3_worth_1 ?_
  refine lv_if_eq (tgt := 12) hx hb dX3_worth_4 (by decide) (fun c_1 => ?_) (fun c_1 => ?_)
  · skip
    refine lv_bipush (v := 10) hx hb dX3_worth_12 (by decide) ?_
    refine lv_iload_n hx hb dX3_worth_14 rfl (lv_at hl 0 rfl) ?_
    refine lv_bipush (v := 10) hx hb dX3_worth_15 (by decide) ?_
    refine lv_irem hx hb dX3_worth_17 (by decide) ?_
    refine lv_isub hx hb dX3_worth_18 ?_
    exact jr_iret hx hb hr hlocks dX3_worth_19 (by simp only [j_X3_worth, if_pos c_1])
  · skip
    refine lv_bipush (v := (-5)) hx hb dX3_worth_7 (by decide) ?_
    refine lv_goto (tgt := 19) hx hb dX3_worth_9 (by decide) ?_
    exact jr_iret hx hb hr hlocks dX3_worth_19 (by simp only [j_X3_worth, if_neg c_1])

abbrev rX3_worthTo : Room := { frames := 2, cells := 0, slots := 0, locals := 40 }
def j_X3_worthTo (x0 : Int32) (x1 : Int32) : Int32 := (if x1 = 0 then j_X3_worth x0 else (if j_X3_isMildew x0 = 0 then j_X3_worth x0 else 0))
set_option maxRecDepth 100000 in
set_option maxHeartbeats 4000000 in
theorem c_X3_worthTo {l : Launch} {D : va_G} (x0 : Int32) (x1 : Int32) : jR l yX3_worthTo wsX3_worthTo rX3_worthTo D [.int x0, .int x1] [] [] (.int (j_X3_worthTo x0 x1)) := by
  refine jR_of (cc := cX3_worthTo) (maxL := 2) (ret := (some .int)) (by decide) rfl ⟨by decide, by decide⟩ ?_
  intro p e s m below meth c ls S hr hlocks hP hK hN hl
  obtain ⟨hx, hb, hml, hown, hts⟩ := id S
  have hl : lv_has ls 2 [(0, .int x0), (1, .int x1)] := hl
  refine lv_iload_n hx hb dX3_worthTo_0 rfl (lv_at hl 1 rfl) ?_
  refine lv_if_eq (tgt := 15) hx hb dX3_worthTo_1 (by decide) (fun c_1 => ?_) (fun c_1 => ?_)
  · skip
    refine lv_iload_n hx hb dX3_worthTo_15 rfl (lv_at hl 0 rfl) ?_
    refine jr_callS (As := [.int x0]) (rest := []) S (c_X3_worth x0) gX3_worthTo_X3_worth rfl (by decide +kernel) ⟨⟨rfl, rfl⟩, ⟨Nat.le_of_ble_eq_true rfl, Nat.le_of_ble_eq_true rfl⟩, Nat.le_of_ble_eq_true rfl, Nat.le_of_ble_eq_true rfl⟩ hP hK hN [] [] rfl rfl (lv_nil hl) rfl (Nat.le_of_ble_eq_true rfl) dX3_worthTo_16 ?_
    exact jr_iret hx hb hr hlocks dX3_worthTo_19 (by simp only [j_X3_worthTo, if_pos c_1])
  · skip
    refine lv_iload_n hx hb dX3_worthTo_4 rfl (lv_at hl 0 rfl) ?_
    refine jr_callS (As := [.int x0]) (rest := []) S (c_X3_isMildew x0) gX3_worthTo_X3_isMildew rfl (by decide +kernel) ⟨⟨rfl, rfl⟩, ⟨Nat.le_of_ble_eq_true rfl, Nat.le_of_ble_eq_true rfl⟩, Nat.le_of_ble_eq_true rfl, Nat.le_of_ble_eq_true rfl⟩ hP hK hN [] [] rfl rfl (lv_nil hl) rfl (Nat.le_of_ble_eq_true rfl) dX3_worthTo_5 ?_
    refine lv_if_eq (tgt := 15) hx hb dX3_worthTo_8 (by decide) (fun c_2 => ?_) (fun c_2 => ?_)
    · skip
      refine lv_iload_n hx hb dX3_worthTo_15 rfl (lv_at hl 0 rfl) ?_
      refine jr_callS (As := [.int x0]) (rest := []) S (c_X3_worth x0) gX3_worthTo_X3_worth rfl (by decide +kernel) ⟨⟨rfl, rfl⟩, ⟨Nat.le_of_ble_eq_true rfl, Nat.le_of_ble_eq_true rfl⟩, Nat.le_of_ble_eq_true rfl, Nat.le_of_ble_eq_true rfl⟩ hP hK hN [] [] rfl rfl (lv_nil hl) rfl (Nat.le_of_ble_eq_true rfl) dX3_worthTo_16 ?_
      exact jr_iret hx hb hr hlocks dX3_worthTo_19 (by simp only [j_X3_worthTo, if_neg c_1, if_pos c_2])
    · skip
      refine lv_iconst (v := 0) hx hb dX3_worthTo_11 (by decide) ?_
      refine lv_goto (tgt := 19) hx hb dX3_worthTo_12 (by decide) ?_
      exact jr_iret hx hb hr hlocks dX3_worthTo_19 (by simp only [j_X3_worthTo, if_neg c_1, if_neg c_2])

abbrev rX3_thrown : Room := { frames := 0, cells := 0, slots := 0, locals := 0 }
def j_X3_thrown (uthr : Int32) : Int32 := uthr
theorem inX3_thrown_X3 : ∀ w ∈ u_ws RX3 TX3 15, w ∈ wsX3_thrown := by decide +kernel
set_option maxRecDepth 100000 in
set_option maxHeartbeats 4000000 in
theorem c_X3_thrown {l : Launch} {D : va_G} (b0 : Nat) (bP : Nat) (bR : Nat) (bS : Nat) (bT : Nat) (bG : Nat) (bW : Nat) (bH : Nat) (bO : Nat) (cP : ClassId) (cR : ClassId) (cS : ClassId) (cT : ClassId) (cG : ClassId) (cW : ClassId) (cH : ClassId) (cO : ClassId) (uplace : Nat → Int32) (urow : Nat → Int32) (upts : Nat → Int32) (utks : Nat → Int32) (uglv : Nat → Int32) (uwin : Nat → Int32) (uheld : Nat → Int32) (utab : Nat → Int32) (udrawn : Int32) (udealt : Int32) (uon : Int32) (uturn : Int32) (uled : Int32) (utr : Int32) (uthr : Int32) : jR l yX3_thrown wsX3_thrown rX3_thrown D [.ref b0] (jM b0 bP bR bS bT bG bW bH bO cP cR cS cT cG cW cH cO uplace urow upts utks uglv uwin uheld utab udrawn udealt uon uturn uled utr uthr) [(cP, .int), (cR, .int), (cS, .int), (cT, .int), (cG, .int), (cW, .int), (cH, .int), (cO, .int)] (.int (j_X3_thrown uthr)) := by
  refine jR_of (cc := cX3_thrown) (maxL := 1) (ret := (some .int)) (by decide) rfl ⟨by decide, by decide⟩ ?_
  intro p e s m below meth c ls S hr hlocks hP hK hN hl
  obtain ⟨hx, hb, hml, hown, hts⟩ := id S
  have hl : lv_has ls 1 [(0, .ref b0)] := hl
  refine lv_aload_n hx hb dX3_thrown_0 rfl (lv_at hl 0 rfl) ?_
  refine va_get (D := D) (ci := 3) (v := .int uthr) (C := RX3) (T := TX3) (N := 15) hx hb hts inX3_thrown_X3 hown hK hP 0 rfl rfl 12 (by decide) (hts (.fieldLink RX3 41 "ArchivistTricksModel" "thrown" "I") (by decide +kernel)) (fun _ h9 => h9) rfl dX3_thrown_1 ?_
  exact jr_iret hx hb hr hlocks dX3_thrown_4 (by simp only [j_X3_thrown])

abbrev rX3_isTrump : Room := { frames := 1, cells := 0, slots := 0, locals := 20 }
def j_X3_isTrump (utr : Int32) (x0 : Int32) : Int32 := (if j_X3_isMildew x0 = 0 then (if j_X3_provenance x0 = utr then 1 else 0) else 0)
theorem inX3_isTrump_X3 : ∀ w ∈ u_ws RX3 TX3 15, w ∈ wsX3_isTrump := by decide +kernel
set_option maxRecDepth 100000 in
set_option maxHeartbeats 4000000 in
theorem c_X3_isTrump {l : Launch} {D : va_G} (b0 : Nat) (bP : Nat) (bR : Nat) (bS : Nat) (bT : Nat) (bG : Nat) (bW : Nat) (bH : Nat) (bO : Nat) (cP : ClassId) (cR : ClassId) (cS : ClassId) (cT : ClassId) (cG : ClassId) (cW : ClassId) (cH : ClassId) (cO : ClassId) (uplace : Nat → Int32) (urow : Nat → Int32) (upts : Nat → Int32) (utks : Nat → Int32) (uglv : Nat → Int32) (uwin : Nat → Int32) (uheld : Nat → Int32) (utab : Nat → Int32) (udrawn : Int32) (udealt : Int32) (uon : Int32) (uturn : Int32) (uled : Int32) (utr : Int32) (uthr : Int32) (x0 : Int32) : jR l yX3_isTrump wsX3_isTrump rX3_isTrump D [.ref b0, .int x0] (jM b0 bP bR bS bT bG bW bH bO cP cR cS cT cG cW cH cO uplace urow upts utks uglv uwin uheld utab udrawn udealt uon uturn uled utr uthr) [(cP, .int), (cR, .int), (cS, .int), (cT, .int), (cG, .int), (cW, .int), (cH, .int), (cO, .int)] (.int (j_X3_isTrump utr x0)) := by
  refine jR_of (cc := cX3_isTrump) (maxL := 2) (ret := (some .boolean)) (by decide) rfl ⟨by decide, by decide⟩ ?_
  intro p e s m below meth c ls S hr hlocks hP hK hN hl
  obtain ⟨hx, hb, hml, hown, hts⟩ := id S
  have hl : lv_has ls 2 [(0, .ref b0), (1, .int x0)] := hl
  refine lv_iload_n hx hb dX3_isTrump_0 rfl (lv_at hl 1 rfl) ?_
  refine jr_callS (As := [.int x0]) (rest := []) S (c_X3_isMildew x0) gX3_isTrump_X3_isMildew rfl (by decide +kernel) ⟨⟨rfl, rfl⟩, ⟨Nat.le_of_ble_eq_true rfl, Nat.le_of_ble_eq_true rfl⟩, Nat.le_of_ble_eq_true rfl, Nat.le_of_ble_eq_true rfl⟩ hP hK hN [] [] rfl rfl (lv_nil hl) rfl (Nat.le_of_ble_eq_true rfl) dX3_isTrump_1 ?_
  refine lv_if_ne (tgt := 22) hx hb dX3_isTrump_4 (by decide) (fun c_1 => ?_) (fun c_1 => ?_)
  · skip
    refine lv_iconst (v := 0) hx hb dX3_isTrump_22 (by decide) ?_
    exact jr_zret hx hb hr hlocks dX3_isTrump_23 rfl (by simp only [j_X3_isTrump, if_neg c_1])
  · skip
    refine lv_iload_n hx hb dX3_isTrump_7 rfl (lv_at hl 1 rfl) ?_
    refine jr_callS (As := [.int x0]) (rest := []) S (c_X3_provenance x0) gX3_isTrump_X3_provenance rfl (by decide +kernel) ⟨⟨rfl, rfl⟩, ⟨Nat.le_of_ble_eq_true rfl, Nat.le_of_ble_eq_true rfl⟩, Nat.le_of_ble_eq_true rfl, Nat.le_of_ble_eq_true rfl⟩ hP hK hN [] [] rfl rfl (lv_nil hl) rfl (Nat.le_of_ble_eq_true rfl) dX3_isTrump_8 ?_
    refine lv_aload_n hx hb dX3_isTrump_11 rfl (lv_at hl 0 rfl) ?_
    refine va_get (D := D) (ci := 3) (v := .int utr) (C := RX3) (T := TX3) (N := 15) hx hb hts inX3_isTrump_X3 hown hK hP 0 rfl rfl 7 (by decide) (hts (.fieldLink RX3 20 "ArchivistTricksModel" "trumps" "I") (by decide +kernel)) (fun _ h9 => h9) rfl dX3_isTrump_12 ?_
    refine lv_icmp_ne (tgt := 22) hx hb dX3_isTrump_15 (by decide) (fun c_2 => ?_) (fun c_2 => ?_)
    · skip
      refine lv_iconst (v := 0) hx hb dX3_isTrump_22 (by decide) ?_
      exact jr_zret hx hb hr hlocks dX3_isTrump_23 rfl (by simp only [j_X3_isTrump, if_pos c_1, if_neg c_2])
    · skip
      refine lv_iconst (v := 1) hx hb dX3_isTrump_18 (by decide) ?_
      refine lv_goto (tgt := 23) hx hb dX3_isTrump_19 (by decide) ?_
      exact jr_zret hx hb hr hlocks dX3_isTrump_23 rfl (by simp only [j_X3_isTrump, if_pos c_1, if_pos c_2])

abbrev rX3_takes : Room := { frames := 2, cells := 0, slots := 0, locals := 41 }
def j_X3_takes (utr : Int32) (x0 : Int32) (x1 : Int32) : Int32 := (if j_X3_isMildew x1 = 0 then (if j_X3_isMildew x0 = 0 then (if j_X3_provenance x1 = j_X3_provenance x0 then (if x1 - x1 / 10 * 10 ≤ x0 - x0 / 10 * 10 then 0 else 1) else (if j_X3_isTrump utr x0 = 0 then 0 else (if j_X3_isTrump utr x1 = 0 then 1 else 0))) else 0) else (if j_X3_isMildew x0 = 0 then 1 else 0))
set_option maxRecDepth 100000 in
set_option maxHeartbeats 4000000 in
theorem c_X3_takes {l : Launch} {D : va_G} (b0 : Nat) (bP : Nat) (bR : Nat) (bS : Nat) (bT : Nat) (bG : Nat) (bW : Nat) (bH : Nat) (bO : Nat) (cP : ClassId) (cR : ClassId) (cS : ClassId) (cT : ClassId) (cG : ClassId) (cW : ClassId) (cH : ClassId) (cO : ClassId) (uplace : Nat → Int32) (urow : Nat → Int32) (upts : Nat → Int32) (utks : Nat → Int32) (uglv : Nat → Int32) (uwin : Nat → Int32) (uheld : Nat → Int32) (utab : Nat → Int32) (udrawn : Int32) (udealt : Int32) (uon : Int32) (uturn : Int32) (uled : Int32) (utr : Int32) (uthr : Int32) (x0 : Int32) (x1 : Int32) : jR l yX3_takes wsX3_takes rX3_takes D [.ref b0, .int x0, .int x1] (jM b0 bP bR bS bT bG bW bH bO cP cR cS cT cG cW cH cO uplace urow upts utks uglv uwin uheld utab udrawn udealt uon uturn uled utr uthr) [(cP, .int), (cR, .int), (cS, .int), (cT, .int), (cG, .int), (cW, .int), (cH, .int), (cO, .int)] (.int (j_X3_takes utr x0 x1)) := by
  refine jR_of (cc := cX3_takes) (maxL := 3) (ret := (some .boolean)) (by decide) rfl ⟨by decide, by decide⟩ ?_
  intro p e s m below meth c ls S hr hlocks hP hK hN hl
  obtain ⟨hx, hb, hml, hown, hts⟩ := id S
  have hl : lv_has ls 3 [(0, .ref b0), (1, .int x0), (2, .int x1)] := hl
  refine lv_iload_n hx hb dX3_takes_0 rfl (lv_at hl 2 rfl) ?_
  refine jr_callS (As := [.int x1]) (rest := []) S (c_X3_isMildew x1) gX3_takes_X3_isMildew rfl (by decide +kernel) ⟨⟨rfl, rfl⟩, ⟨Nat.le_of_ble_eq_true rfl, Nat.le_of_ble_eq_true rfl⟩, Nat.le_of_ble_eq_true rfl, Nat.le_of_ble_eq_true rfl⟩ hP hK hN [] [] rfl rfl (lv_nil hl) rfl (Nat.le_of_ble_eq_true rfl) dX3_takes_1 ?_
  refine lv_if_ne (tgt := 14) hx hb dX3_takes_4 (by decide) (fun c_1 => ?_) (fun c_1 => ?_)
  · skip
    refine lv_iload_n hx hb dX3_takes_14 rfl (lv_at hl 2 rfl) ?_
    refine jr_callS (As := [.int x1]) (rest := []) S (c_X3_isMildew x1) gX3_takes_X3_isMildew rfl (by decide +kernel) ⟨⟨rfl, rfl⟩, ⟨Nat.le_of_ble_eq_true rfl, Nat.le_of_ble_eq_true rfl⟩, Nat.le_of_ble_eq_true rfl, Nat.le_of_ble_eq_true rfl⟩ hP hK hN [] [] rfl rfl (lv_nil hl) rfl (Nat.le_of_ble_eq_true rfl) dX3_takes_15 ?_
    refine lv_if_eq (tgt := 32) hx hb dX3_takes_18 (by decide) (fun c_ => absurd c_ c_1) (fun _ => ?_)
    refine lv_iload_n hx hb dX3_takes_21 rfl (lv_at hl 1 rfl) ?_
    refine jr_callS (As := [.int x0]) (rest := []) S (c_X3_isMildew x0) gX3_takes_X3_isMildew rfl (by decide +kernel) ⟨⟨rfl, rfl⟩, ⟨Nat.le_of_ble_eq_true rfl, Nat.le_of_ble_eq_true rfl⟩, Nat.le_of_ble_eq_true rfl, Nat.le_of_ble_eq_true rfl⟩ hP hK hN [] [] rfl rfl (lv_nil hl) rfl (Nat.le_of_ble_eq_true rfl) dX3_takes_22 ?_
    refine lv_if_ne (tgt := 32) hx hb dX3_takes_25 (by decide) (fun c_2 => ?_) (fun c_2 => ?_)
    · skip
      refine lv_iconst (v := 0) hx hb dX3_takes_32 (by decide) ?_
      exact jr_zret hx hb hr hlocks dX3_takes_33 rfl (by simp only [j_X3_takes, if_neg c_1, if_neg c_2])
    · skip
      refine lv_iconst (v := 1) hx hb dX3_takes_28 (by decide) ?_
      refine lv_goto (tgt := 33) hx hb dX3_takes_29 (by decide) ?_
      exact jr_zret hx hb hr hlocks dX3_takes_33 rfl (by simp only [j_X3_takes, if_neg c_1, if_pos c_2])
  · skip
    refine lv_iload_n hx hb dX3_takes_7 rfl (lv_at hl 1 rfl) ?_
    refine jr_callS (As := [.int x0]) (rest := []) S (c_X3_isMildew x0) gX3_takes_X3_isMildew rfl (by decide +kernel) ⟨⟨rfl, rfl⟩, ⟨Nat.le_of_ble_eq_true rfl, Nat.le_of_ble_eq_true rfl⟩, Nat.le_of_ble_eq_true rfl, Nat.le_of_ble_eq_true rfl⟩ hP hK hN [] [] rfl rfl (lv_nil hl) rfl (Nat.le_of_ble_eq_true rfl) dX3_takes_8 ?_
    refine lv_if_eq (tgt := 34) hx hb dX3_takes_11 (by decide) (fun c_3 => ?_) (fun c_3 => ?_)
    · skip
      refine lv_iload_n hx hb dX3_takes_34 rfl (lv_at hl 2 rfl) ?_
      refine jr_callS (As := [.int x1]) (rest := []) S (c_X3_provenance x1) gX3_takes_X3_provenance rfl (by decide +kernel) ⟨⟨rfl, rfl⟩, ⟨Nat.le_of_ble_eq_true rfl, Nat.le_of_ble_eq_true rfl⟩, Nat.le_of_ble_eq_true rfl, Nat.le_of_ble_eq_true rfl⟩ hP hK hN [] [] rfl rfl (lv_nil hl) rfl (Nat.le_of_ble_eq_true rfl) dX3_takes_35 ?_
      refine lv_iload_n hx hb dX3_takes_38 rfl (lv_at hl 1 rfl) ?_
      refine jr_callS (As := [.int x0]) (rest := [.int (j_X3_provenance x1)]) S (c_X3_provenance x0) gX3_takes_X3_provenance rfl (by decide +kernel) ⟨⟨rfl, rfl⟩, ⟨Nat.le_of_ble_eq_true rfl, Nat.le_of_ble_eq_true rfl⟩, Nat.le_of_ble_eq_true rfl, Nat.le_of_ble_eq_true rfl⟩ hP hK hN [] [] rfl rfl (lv_nil hl) rfl (Nat.le_of_ble_eq_true rfl) dX3_takes_39 ?_
      refine lv_icmp_ne (tgt := 62) hx hb dX3_takes_42 (by decide) (fun c_4 => ?_) (fun c_4 => ?_)
      · skip
        refine lv_aload_n hx hb dX3_takes_62 rfl (lv_at hl 0 rfl) ?_
        refine lv_iload_n hx hb dX3_takes_63 rfl (lv_at hl 1 rfl) ?_
        refine jr_callV (C := RX3) (As := [.int x0]) (rest := []) S (c_X3_isTrump b0 bP bR bS bT bG bW bH bO cP cR cS cT cG cW cH cO uplace urow upts utks uglv uwin uheld utab udrawn udealt uon uturn uled utr uthr x0) gX3_takes_X3_isTrump rfl (by decide +kernel) ⟨⟨rfl, rfl⟩, ⟨Nat.le_of_ble_eq_true rfl, Nat.le_of_ble_eq_true rfl⟩, Nat.le_of_ble_eq_true rfl, Nat.le_of_ble_eq_true rfl⟩ hP hK hN [0, 1, 2, 3, 4, 5, 6, 7, 8] [0, 1, 2, 3, 4, 5, 6, 7] rfl rfl 0 3 rfl rfl rfl (lv_nil hl) rfl (Nat.le_of_ble_eq_true rfl) dX3_takes_64 ?_
        refine lv_if_eq (tgt := 82) hx hb dX3_takes_67 (by decide) (fun c_5 => ?_) (fun c_5 => ?_)
        · skip
          refine lv_iconst (v := 0) hx hb dX3_takes_82 (by decide) ?_
          exact jr_zret hx hb hr hlocks dX3_takes_83 rfl (by simp only [j_X3_takes, if_pos c_1, if_pos c_3, if_neg c_4, if_pos c_5])
        · skip
          refine lv_aload_n hx hb dX3_takes_70 rfl (lv_at hl 0 rfl) ?_
          refine lv_iload_n hx hb dX3_takes_71 rfl (lv_at hl 2 rfl) ?_
          refine jr_callV (C := RX3) (As := [.int x1]) (rest := []) S (c_X3_isTrump b0 bP bR bS bT bG bW bH bO cP cR cS cT cG cW cH cO uplace urow upts utks uglv uwin uheld utab udrawn udealt uon uturn uled utr uthr x1) gX3_takes_X3_isTrump rfl (by decide +kernel) ⟨⟨rfl, rfl⟩, ⟨Nat.le_of_ble_eq_true rfl, Nat.le_of_ble_eq_true rfl⟩, Nat.le_of_ble_eq_true rfl, Nat.le_of_ble_eq_true rfl⟩ hP hK hN [0, 1, 2, 3, 4, 5, 6, 7, 8] [0, 1, 2, 3, 4, 5, 6, 7] rfl rfl 0 3 rfl rfl rfl (lv_nil hl) rfl (Nat.le_of_ble_eq_true rfl) dX3_takes_72 ?_
          refine lv_if_ne (tgt := 82) hx hb dX3_takes_75 (by decide) (fun c_6 => ?_) (fun c_6 => ?_)
          · skip
            refine lv_iconst (v := 0) hx hb dX3_takes_82 (by decide) ?_
            exact jr_zret hx hb hr hlocks dX3_takes_83 rfl (by simp only [j_X3_takes, if_pos c_1, if_pos c_3, if_neg c_4, if_neg c_5, if_neg c_6])
          · skip
            refine lv_iconst (v := 1) hx hb dX3_takes_78 (by decide) ?_
            refine lv_goto (tgt := 83) hx hb dX3_takes_79 (by decide) ?_
            exact jr_zret hx hb hr hlocks dX3_takes_83 rfl (by simp only [j_X3_takes, if_pos c_1, if_pos c_3, if_neg c_4, if_neg c_5, if_pos c_6])
      · skip
        refine lv_iload_n hx hb dX3_takes_45 rfl (lv_at hl 1 rfl) ?_
        refine lv_bipush (v := 10) hx hb dX3_takes_46 (by decide) ?_
        refine lv_irem hx hb dX3_takes_48 (by decide) ?_
        refine lv_iload_n hx hb dX3_takes_49 rfl (lv_at hl 2 rfl) ?_
        refine lv_bipush (v := 10) hx hb dX3_takes_50 (by decide) ?_
        refine lv_irem hx hb dX3_takes_52 (by decide) ?_
        refine lv_icmp_ge (tgt := 60) hx hb dX3_takes_53 (by decide) (fun c_7 => ?_) (fun c_7 => ?_)
        · skip
          refine lv_iconst (v := 0) hx hb dX3_takes_60 (by decide) ?_
          exact jr_zret hx hb hr hlocks dX3_takes_61 rfl (by simp only [j_X3_takes, if_pos c_1, if_pos c_3, if_pos c_4, if_pos c_7])
        · skip
          refine lv_iconst (v := 1) hx hb dX3_takes_56 (by decide) ?_
          refine lv_goto (tgt := 61) hx hb dX3_takes_57 (by decide) ?_
          exact jr_zret hx hb hr hlocks dX3_takes_61 rfl (by simp only [j_X3_takes, if_pos c_1, if_pos c_3, if_pos c_4, if_neg c_7])
    · skip
      refine lv_iload_n hx hb dX3_takes_14 rfl (lv_at hl 2 rfl) ?_
      refine jr_callS (As := [.int x1]) (rest := []) S (c_X3_isMildew x1) gX3_takes_X3_isMildew rfl (by decide +kernel) ⟨⟨rfl, rfl⟩, ⟨Nat.le_of_ble_eq_true rfl, Nat.le_of_ble_eq_true rfl⟩, Nat.le_of_ble_eq_true rfl, Nat.le_of_ble_eq_true rfl⟩ hP hK hN [] [] rfl rfl (lv_nil hl) rfl (Nat.le_of_ble_eq_true rfl) dX3_takes_15 ?_
      refine lv_if_eq (tgt := 32) hx hb dX3_takes_18 (by decide) (fun _ => ?_) (fun c_ => absurd c_1 c_)
      refine lv_iconst (v := 0) hx hb dX3_takes_32 (by decide) ?_
      exact jr_zret hx hb hr hlocks dX3_takes_33 rfl (by simp only [j_X3_takes, if_pos c_1, if_neg c_3])

abbrev rX3_inPile : Room := { frames := 0, cells := 0, slots := 0, locals := 0 }
def j_X3_inPile (udrawn : Int32) (udealt : Int32) : Int32 := (if udealt = 0 then 0 else 30 - udrawn)
theorem inX3_inPile_X3 : ∀ w ∈ u_ws RX3 TX3 15, w ∈ wsX3_inPile := by decide +kernel
set_option maxRecDepth 100000 in
set_option maxHeartbeats 4000000 in
theorem c_X3_inPile {l : Launch} {D : va_G} (b0 : Nat) (bP : Nat) (bR : Nat) (bS : Nat) (bT : Nat) (bG : Nat) (bW : Nat) (bH : Nat) (bO : Nat) (cP : ClassId) (cR : ClassId) (cS : ClassId) (cT : ClassId) (cG : ClassId) (cW : ClassId) (cH : ClassId) (cO : ClassId) (uplace : Nat → Int32) (urow : Nat → Int32) (upts : Nat → Int32) (utks : Nat → Int32) (uglv : Nat → Int32) (uwin : Nat → Int32) (uheld : Nat → Int32) (utab : Nat → Int32) (udrawn : Int32) (udealt : Int32) (uon : Int32) (uturn : Int32) (uled : Int32) (utr : Int32) (uthr : Int32) : jR l yX3_inPile wsX3_inPile rX3_inPile D [.ref b0] (jM b0 bP bR bS bT bG bW bH bO cP cR cS cT cG cW cH cO uplace urow upts utks uglv uwin uheld utab udrawn udealt uon uturn uled utr uthr) [(cP, .int), (cR, .int), (cS, .int), (cT, .int), (cG, .int), (cW, .int), (cH, .int), (cO, .int)] (.int (j_X3_inPile udrawn udealt)) := by
  refine jR_of (cc := cX3_inPile) (maxL := 1) (ret := (some .int)) (by decide) rfl ⟨by decide, by decide⟩ ?_
  intro p e s m below meth c ls S hr hlocks hP hK hN hl
  obtain ⟨hx, hb, hml, hown, hts⟩ := id S
  have hl : lv_has ls 1 [(0, .ref b0)] := hl
  refine lv_aload_n hx hb dX3_inPile_0 rfl (lv_at hl 0 rfl) ?_
  refine va_get (D := D) (ci := 3) (v := .int udealt) (C := RX3) (T := TX3) (N := 15) hx hb hts inX3_inPile_X3 hown hK hP 0 rfl rfl 3 (by decide) (hts (.fieldLink RX3 58 "ArchivistTricksModel" "isDealt" "Z") (by decide +kernel)) (fun _ h9 => h9) rfl dX3_inPile_1 ?_
  refine lv_if_eq (tgt := 17) hx hb dX3_inPile_4 (by decide) (fun c_1 => ?_) (fun c_1 => ?_)
  · skip
    refine lv_iconst (v := 0) hx hb dX3_inPile_17 (by decide) ?_
    exact jr_iret hx hb hr hlocks dX3_inPile_18 (by simp only [j_X3_inPile, if_pos c_1])
  · skip
    refine lv_bipush (v := 30) hx hb dX3_inPile_7 (by decide) ?_
    refine lv_aload_n hx hb dX3_inPile_9 rfl (lv_at hl 0 rfl) ?_
    refine va_get (D := D) (ci := 3) (v := .int udrawn) (C := RX3) (T := TX3) (N := 15) hx hb hts inX3_inPile_X3 hown hK hP 0 rfl rfl 2 (by decide) (hts (.fieldLink RX3 62 "ArchivistTricksModel" "drawn" "I") (by decide +kernel)) (fun _ h9 => h9) rfl dX3_inPile_10 ?_
    refine lv_isub hx hb dX3_inPile_13 ?_
    refine lv_goto (tgt := 18) hx hb dX3_inPile_14 (by decide) ?_
    exact jr_iret hx hb hr hlocks dX3_inPile_18 (by simp only [j_X3_inPile, if_neg c_1])

abbrev rX3_howMany : Room := { frames := 0, cells := 0, slots := 0, locals := 0 }
def j_X3_howMany_4 (uplace : Nat → Int32) (udealt : Int32) (x0 : Int32) : Nat → Nat → Int32 → Int32
  | 0, i, y2 => y2
  | n + 1, i, y2 => (if udealt = 0 then y2 else (if uplace (nI i).toNatClampNeg = x0 then j_X3_howMany_4 uplace udealt x0 n (i + 1) (y2 + 1) else j_X3_howMany_4 uplace udealt x0 n (i + 1) (y2 + 0)))
def j_X3_howMany (uplace : Nat → Int32) (udealt : Int32) (x0 : Int32) : Int32 := j_X3_howMany_4 uplace udealt x0 42 0 0
theorem inX3_howMany_X3 : ∀ w ∈ u_ws RX3 TX3 15, w ∈ wsX3_howMany := by decide +kernel
set_option maxRecDepth 100000 in
set_option maxHeartbeats 4000000 in
theorem c_X3_howMany {l : Launch} {D : va_G} (b0 : Nat) (bP : Nat) (bR : Nat) (bS : Nat) (bT : Nat) (bG : Nat) (bW : Nat) (bH : Nat) (bO : Nat) (cP : ClassId) (cR : ClassId) (cS : ClassId) (cT : ClassId) (cG : ClassId) (cW : ClassId) (cH : ClassId) (cO : ClassId) (uplace : Nat → Int32) (urow : Nat → Int32) (upts : Nat → Int32) (utks : Nat → Int32) (uglv : Nat → Int32) (uwin : Nat → Int32) (uheld : Nat → Int32) (utab : Nat → Int32) (udrawn : Int32) (udealt : Int32) (uon : Int32) (uturn : Int32) (uled : Int32) (utr : Int32) (uthr : Int32) (x0 : Int32) : jR l yX3_howMany wsX3_howMany rX3_howMany D [.ref b0, .int x0] (jM b0 bP bR bS bT bG bW bH bO cP cR cS cT cG cW cH cO uplace urow upts utks uglv uwin uheld utab udrawn udealt uon uturn uled utr uthr) [(cP, .int), (cR, .int), (cS, .int), (cT, .int), (cG, .int), (cW, .int), (cH, .int), (cO, .int)] (.int (j_X3_howMany uplace udealt x0)) := by
  refine jR_of (cc := cX3_howMany) (maxL := 4) (ret := (some .int)) (by decide) rfl ⟨by decide, by decide⟩ ?_
  intro p e s m below meth c ls S hr hlocks hP hK hN hl
  obtain ⟨hx, hb, hml, hown, hts⟩ := id S
  have hl : lv_has ls 4 [(0, .ref b0), (1, .int x0)] := hl
  have loop4 : ∀ (n i : Nat) (y2 : Int32), i + n = 42 → j_X3_howMany_4 uplace udealt x0 n i y2 = (j_X3_howMany uplace udealt x0) → ∀ (ls : Array Slot), lv_has ls 4 [(3, .int (nI i)), (2, .int y2), (0, .ref b0), (1, .int x0)] → W p l e rX3_howMany s m ([.ref b0, .int x0] : List Value).toArray below meth c s.heap [] 0 0 (MQ below (k2_QcV (.int (j_X3_howMany uplace udealt x0))) ([.ref b0, .int x0] : List Value).toArray s 0 0 (fun _ => False)) (F0 m 4 ls []) := by
    intro n
    induction n with
    | zero =>
      intro i y2 hin hv ls hl
      have hge : (42 : Int32) ≤ nI i := by rw [show i = 42 by omega]; decide
      have hgl : ¬ nI i < (42 : Int32) := by rw [show i = 42 by omega]; decide
      refine lv_iload_n hx hb dX3_howMany_4 rfl (lv_at hl 0 rfl) ?_
      refine lv_bipush (v := 42) hx hb dX3_howMany_5 (by decide) ?_
      refine lv_icmp_ge (tgt := 41) hx hb dX3_howMany_7 (by decide) (fun _ => ?_) (fun c_ => absurd hge c_)
      refine lv_iload_n hx hb dX3_howMany_41 rfl (lv_at hl 1 rfl) ?_
      exact jr_iret hx hb hr hlocks dX3_howMany_42 (by rw [← hv]; simp only [j_X3_howMany_4, if_pos hge, if_neg hgl])
    | succ n ih =>
      intro i y2 hin hv ls hl
      have hge : ¬ (42 : Int32) ≤ nI i := nI_ge (a := i) (b := 42) (by omega) (by decide)
      have hgl : nI i < (42 : Int32) := nI_lt (a := i) (b := 42) (by omega) (by decide)
      refine lv_iload_n hx hb dX3_howMany_4 rfl (lv_at hl 0 rfl) ?_
      refine lv_bipush (v := 42) hx hb dX3_howMany_5 (by decide) ?_
      refine lv_icmp_ge (tgt := 41) hx hb dX3_howMany_7 (by decide) (fun c_ => absurd c_ hge) (fun _ => ?_)
      refine lv_aload_n hx hb dX3_howMany_10 rfl (lv_at hl 2 rfl) ?_
      refine va_get (D := D) (ci := 3) (v := .int udealt) (C := RX3) (T := TX3) (N := 15) hx hb hts inX3_howMany_X3 hown hK hP 0 rfl rfl 3 (by decide) (hts (.fieldLink RX3 58 "ArchivistTricksModel" "isDealt" "Z") (by decide +kernel)) (fun _ h9 => h9) rfl dX3_howMany_11 ?_
      refine lv_if_eq (tgt := 41) hx hb dX3_howMany_14 (by decide) (fun c_4001 => ?_) (fun c_4001 => ?_)
      · skip
        refine lv_iload_n hx hb dX3_howMany_41 rfl (lv_at hl 1 rfl) ?_
        exact jr_iret hx hb hr hlocks dX3_howMany_42 (by rw [← hv]; simp only [j_X3_howMany_4, if_neg hge, if_pos hgl, if_pos c_4001])
      · skip
        refine lv_iload_n hx hb dX3_howMany_17 rfl (lv_at hl 1 rfl) ?_
        refine lv_aload_n hx hb dX3_howMany_18 rfl (lv_at hl 2 rfl) ?_
        refine va_get (D := D) (ci := 3) (v := .ref bP) (C := RX3) (T := TX3) (N := 15) hx hb hts inX3_howMany_X3 hown hK hP 0 rfl rfl 0 (by decide) (hts (.fieldLink RX3 7 "ArchivistTricksModel" "place" "[I") (by decide +kernel)) (fun _ h9 => h9) rfl dX3_howMany_19 ?_
        refine lv_iload_n hx hb dX3_howMany_22 rfl (lv_at hl 0 rfl) ?_
        refine va_iald hx hb hK hP 1 0 rfl rfl (i := nI i) (vp_in_nI (by omega) (by decide)) dX3_howMany_23 ?_
        refine lv_iload_n hx hb dX3_howMany_24 rfl (lv_at hl 3 rfl) ?_
        refine lv_icmp_ne (tgt := 32) hx hb dX3_howMany_25 (by decide) (fun c_4002 => ?_) (fun c_4002 => ?_)
        · skip
          refine lv_iconst (v := 0) hx hb dX3_howMany_32 (by decide) ?_
          refine lv_iadd hx hb dX3_howMany_33 ?_
          refine lv_istore_n (lv' := [(2, .int (y2 + 0)), (3, .int (nI i)), (0, .ref b0), (1, .int x0)]) hx hb dX3_howMany_34 rfl hl (by decide) rfl (fun ls hl => ?_)
          refine lv_iinc (v := nI (i + 1)) (lv' := [(3, .int (nI (i + 1))), (2, .int (y2 + 0)), (0, .ref b0), (1, .int x0)]) hx hb dX3_howMany_35 hl (k := 1) rfl (nI_1 i) (by decide) rfl (fun ls hl => ?_)
          refine lv_goto (tgt := 4) hx hb dX3_howMany_38 (by decide) ?_
          exact ih (i + 1) (y2 + 0) (by omega) (by rw [← hv]; simp only [j_X3_howMany_4, if_neg hge, if_pos hgl, if_neg c_4001, if_neg c_4002]) ls (lv_sub hl [0, 1, 2, 3] rfl)
        · skip
          refine lv_iconst (v := 1) hx hb dX3_howMany_28 (by decide) ?_
          refine lv_goto (tgt := 33) hx hb dX3_howMany_29 (by decide) ?_
          refine lv_iadd hx hb dX3_howMany_33 ?_
          refine lv_istore_n (lv' := [(2, .int (y2 + 1)), (3, .int (nI i)), (0, .ref b0), (1, .int x0)]) hx hb dX3_howMany_34 rfl hl (by decide) rfl (fun ls hl => ?_)
          refine lv_iinc (v := nI (i + 1)) (lv' := [(3, .int (nI (i + 1))), (2, .int (y2 + 1)), (0, .ref b0), (1, .int x0)]) hx hb dX3_howMany_35 hl (k := 1) rfl (nI_1 i) (by decide) rfl (fun ls hl => ?_)
          refine lv_goto (tgt := 4) hx hb dX3_howMany_38 (by decide) ?_
          exact ih (i + 1) (y2 + 1) (by omega) (by rw [← hv]; simp only [j_X3_howMany_4, if_neg hge, if_pos hgl, if_neg c_4001, if_pos c_4002]) ls (lv_sub hl [0, 1, 2, 3] rfl)
  refine lv_iconst (v := 0) hx hb dX3_howMany_0 (by decide) ?_
  refine lv_istore_n (lv' := [(2, .int 0), (0, .ref b0), (1, .int x0)]) hx hb dX3_howMany_1 rfl hl (by decide) rfl (fun ls hl => ?_)
  refine lv_iconst (v := 0) hx hb dX3_howMany_2 (by decide) ?_
  refine lv_istore_n (lv' := [(3, .int 0), (2, .int 0), (0, .ref b0), (1, .int x0)]) hx hb dX3_howMany_3 rfl hl (by decide) rfl (fun ls hl => ?_)
  exact loop4 42 0 0 rfl (by simp only [j_X3_howMany]) ls (lv_sub (l' := [(3, .int (nI 0)), (2, .int 0), (0, .ref b0), (1, .int x0)]) hl [0, 1, 2, 3] rfl)

abbrev rX3_hasOf : Room := { frames := 1, cells := 0, slots := 0, locals := 20 }
def j_X3_hasOf_5 (uplace : Nat → Int32) (x0 : Int32) (x1 : Int32) : Nat → Nat → Int32 → Int32
  | 0, i, y3 => y3
  | n + 1, i, y3 => (if y3 = 0 then (if uplace (nI i).toNatClampNeg = x0 then (if j_X3_provenance (nI i) = x1 then j_X3_hasOf_5 uplace x0 x1 n (i + 1) 1 else j_X3_hasOf_5 uplace x0 x1 n (i + 1) 0) else j_X3_hasOf_5 uplace x0 x1 n (i + 1) 0) else j_X3_hasOf_5 uplace x0 x1 n (i + 1) 1)
def j_X3_hasOf (uplace : Nat → Int32) (x0 : Int32) (x1 : Int32) : Int32 := j_X3_hasOf_5 uplace x0 x1 40 0 0
theorem inX3_hasOf_X3 : ∀ w ∈ u_ws RX3 TX3 15, w ∈ wsX3_hasOf := by decide +kernel
set_option maxRecDepth 100000 in
set_option maxHeartbeats 4000000 in
theorem c_X3_hasOf {l : Launch} {D : va_G} (b0 : Nat) (bP : Nat) (bR : Nat) (bS : Nat) (bT : Nat) (bG : Nat) (bW : Nat) (bH : Nat) (bO : Nat) (cP : ClassId) (cR : ClassId) (cS : ClassId) (cT : ClassId) (cG : ClassId) (cW : ClassId) (cH : ClassId) (cO : ClassId) (uplace : Nat → Int32) (urow : Nat → Int32) (upts : Nat → Int32) (utks : Nat → Int32) (uglv : Nat → Int32) (uwin : Nat → Int32) (uheld : Nat → Int32) (utab : Nat → Int32) (udrawn : Int32) (udealt : Int32) (uon : Int32) (uturn : Int32) (uled : Int32) (utr : Int32) (uthr : Int32) (x0 : Int32) (x1 : Int32) : jR l yX3_hasOf wsX3_hasOf rX3_hasOf D [.ref b0, .int x0, .int x1] (jM b0 bP bR bS bT bG bW bH bO cP cR cS cT cG cW cH cO uplace urow upts utks uglv uwin uheld utab udrawn udealt uon uturn uled utr uthr) [(cP, .int), (cR, .int), (cS, .int), (cT, .int), (cG, .int), (cW, .int), (cH, .int), (cO, .int)] (.int (j_X3_hasOf uplace x0 x1)) := by
  refine jR_of (cc := cX3_hasOf) (maxL := 5) (ret := (some .boolean)) (by decide) rfl ⟨by decide, by decide⟩ ?_
  intro p e s m below meth c ls S hr hlocks hP hK hN hl
  obtain ⟨hx, hb, hml, hown, hts⟩ := id S
  have hl : lv_has ls 5 [(0, .ref b0), (1, .int x0), (2, .int x1)] := hl
  have loop5 : ∀ (n i : Nat) (y3 : Int32), i + n = 40 → j_X3_hasOf_5 uplace x0 x1 n i y3 = (j_X3_hasOf uplace x0 x1) → ∀ (ls : Array Slot), lv_has ls 5 [(4, .int (nI i)), (3, .int y3), (0, .ref b0), (1, .int x0), (2, .int x1)] → W p l e rX3_hasOf s m ([.ref b0, .int x0, .int x1] : List Value).toArray below meth c s.heap [] 0 0 (MQ below (k2_QcV (.int (j_X3_hasOf uplace x0 x1))) ([.ref b0, .int x0, .int x1] : List Value).toArray s 0 0 (fun _ => False)) (F0 m 5 ls []) := by
    intro n
    induction n with
    | zero =>
      intro i y3 hin hv ls hl
      have hge : (40 : Int32) ≤ nI i := by rw [show i = 40 by omega]; decide
      have hgl : ¬ nI i < (40 : Int32) := by rw [show i = 40 by omega]; decide
      refine lv_iload hx hb dX3_hasOf_5 (lv_at hl 0 rfl) ?_
      refine lv_bipush (v := 40) hx hb dX3_hasOf_7 (by decide) ?_
      refine lv_icmp_ge (tgt := 48) hx hb dX3_hasOf_9 (by decide) (fun _ => ?_) (fun c_ => absurd hge c_)
      refine lv_iload_n hx hb dX3_hasOf_48 rfl (lv_at hl 1 rfl) ?_
      exact jr_zret hx hb hr hlocks dX3_hasOf_49 (by simp only [narrow]; rfl) (by rw [← hv]; simp only [j_X3_hasOf_5, if_pos hge, if_neg hgl])
    | succ n ih =>
      intro i y3 hin hv ls hl
      have hge : ¬ (40 : Int32) ≤ nI i := nI_ge (a := i) (b := 40) (by omega) (by decide)
      have hgl : nI i < (40 : Int32) := nI_lt (a := i) (b := 40) (by omega) (by decide)
      refine lv_iload hx hb dX3_hasOf_5 (lv_at hl 0 rfl) ?_
      refine lv_bipush (v := 40) hx hb dX3_hasOf_7 (by decide) ?_
      refine lv_icmp_ge (tgt := 48) hx hb dX3_hasOf_9 (by decide) (fun c_ => absurd c_ hge) (fun _ => ?_)
      refine lv_iload_n hx hb dX3_hasOf_12 rfl (lv_at hl 1 rfl) ?_
      refine lv_if_ne (tgt := 36) hx hb dX3_hasOf_13 (by decide) (fun c_5001 => ?_) (fun c_5001 => ?_)
      · skip
        refine lv_iconst (v := 1) hx hb dX3_hasOf_36 (by decide) ?_
        refine lv_goto (tgt := 41) hx hb dX3_hasOf_37 (by decide) ?_
        refine lv_istore_n (lv' := [(3, .int 1), (4, .int (nI i)), (0, .ref b0), (1, .int x0), (2, .int x1)]) hx hb dX3_hasOf_41 rfl hl (by decide) rfl (fun ls hl => ?_)
        refine lv_iinc (v := nI (i + 1)) (lv' := [(4, .int (nI (i + 1))), (3, .int 1), (0, .ref b0), (1, .int x0), (2, .int x1)]) hx hb dX3_hasOf_42 hl (k := 1) rfl (nI_1 i) (by decide) rfl (fun ls hl => ?_)
        refine lv_goto (tgt := 5) hx hb dX3_hasOf_45 (by decide) ?_
        exact ih (i + 1) 1 (by omega) (by rw [← hv]; simp only [j_X3_hasOf_5, if_neg hge, if_pos hgl, if_neg c_5001]) ls (lv_sub hl [0, 1, 2, 3, 4] rfl)
      · skip
        refine lv_aload_n hx hb dX3_hasOf_16 rfl (lv_at hl 2 rfl) ?_
        refine va_get (D := D) (ci := 3) (v := .ref bP) (C := RX3) (T := TX3) (N := 15) hx hb hts inX3_hasOf_X3 hown hK hP 0 rfl rfl 0 (by decide) (hts (.fieldLink RX3 7 "ArchivistTricksModel" "place" "[I") (by decide +kernel)) (fun _ h9 => h9) rfl dX3_hasOf_17 ?_
        refine lv_iload hx hb dX3_hasOf_20 (lv_at hl 0 rfl) ?_
        refine va_iald hx hb hK hP 1 0 rfl rfl (i := nI i) (vp_in_nI (by omega) (by decide)) dX3_hasOf_22 ?_
        refine lv_iload_n hx hb dX3_hasOf_23 rfl (lv_at hl 3 rfl) ?_
        refine lv_icmp_ne (tgt := 40) hx hb dX3_hasOf_24 (by decide) (fun c_5002 => ?_) (fun c_5002 => ?_)
        · skip
          refine lv_iconst (v := 0) hx hb dX3_hasOf_40 (by decide) ?_
          refine lv_istore_n (lv' := [(3, .int 0), (4, .int (nI i)), (0, .ref b0), (1, .int x0), (2, .int x1)]) hx hb dX3_hasOf_41 rfl hl (by decide) rfl (fun ls hl => ?_)
          refine lv_iinc (v := nI (i + 1)) (lv' := [(4, .int (nI (i + 1))), (3, .int 0), (0, .ref b0), (1, .int x0), (2, .int x1)]) hx hb dX3_hasOf_42 hl (k := 1) rfl (nI_1 i) (by decide) rfl (fun ls hl => ?_)
          refine lv_goto (tgt := 5) hx hb dX3_hasOf_45 (by decide) ?_
          exact ih (i + 1) 0 (by omega) (by rw [← hv]; simp only [j_X3_hasOf_5, if_neg hge, if_pos hgl, if_pos c_5001, if_neg c_5002]) ls (lv_sub hl [0, 1, 2, 3, 4] rfl)
        · skip
          refine lv_iload hx hb dX3_hasOf_27 (lv_at hl 0 rfl) ?_
          refine jr_callS (As := [.int (nI i)]) (rest := []) S (c_X3_provenance (nI i)) gX3_hasOf_X3_provenance rfl (by decide +kernel) ⟨⟨rfl, rfl⟩, ⟨Nat.le_of_ble_eq_true rfl, Nat.le_of_ble_eq_true rfl⟩, Nat.le_of_ble_eq_true rfl, Nat.le_of_ble_eq_true rfl⟩ hP hK hN [] [] rfl rfl (lv_nil hl) rfl (Nat.le_of_ble_eq_true rfl) dX3_hasOf_29 ?_
          refine lv_iload_n hx hb dX3_hasOf_32 rfl (lv_at hl 4 rfl) ?_
          refine lv_icmp_ne (tgt := 40) hx hb dX3_hasOf_33 (by decide) (fun c_5003 => ?_) (fun c_5003 => ?_)
          · skip
            refine lv_iconst (v := 0) hx hb dX3_hasOf_40 (by decide) ?_
            refine lv_istore_n (lv' := [(3, .int 0), (4, .int (nI i)), (0, .ref b0), (1, .int x0), (2, .int x1)]) hx hb dX3_hasOf_41 rfl hl (by decide) rfl (fun ls hl => ?_)
            refine lv_iinc (v := nI (i + 1)) (lv' := [(4, .int (nI (i + 1))), (3, .int 0), (0, .ref b0), (1, .int x0), (2, .int x1)]) hx hb dX3_hasOf_42 hl (k := 1) rfl (nI_1 i) (by decide) rfl (fun ls hl => ?_)
            refine lv_goto (tgt := 5) hx hb dX3_hasOf_45 (by decide) ?_
            exact ih (i + 1) 0 (by omega) (by rw [← hv]; simp only [j_X3_hasOf_5, if_neg hge, if_pos hgl, if_pos c_5001, if_pos c_5002, if_neg c_5003]) ls (lv_sub hl [0, 1, 2, 3, 4] rfl)
          · skip
            refine lv_iconst (v := 1) hx hb dX3_hasOf_36 (by decide) ?_
            refine lv_goto (tgt := 41) hx hb dX3_hasOf_37 (by decide) ?_
            refine lv_istore_n (lv' := [(3, .int 1), (4, .int (nI i)), (0, .ref b0), (1, .int x0), (2, .int x1)]) hx hb dX3_hasOf_41 rfl hl (by decide) rfl (fun ls hl => ?_)
            refine lv_iinc (v := nI (i + 1)) (lv' := [(4, .int (nI (i + 1))), (3, .int 1), (0, .ref b0), (1, .int x0), (2, .int x1)]) hx hb dX3_hasOf_42 hl (k := 1) rfl (nI_1 i) (by decide) rfl (fun ls hl => ?_)
            refine lv_goto (tgt := 5) hx hb dX3_hasOf_45 (by decide) ?_
            exact ih (i + 1) 1 (by omega) (by rw [← hv]; simp only [j_X3_hasOf_5, if_neg hge, if_pos hgl, if_pos c_5001, if_pos c_5002, if_pos c_5003]) ls (lv_sub hl [0, 1, 2, 3, 4] rfl)
  refine lv_iconst (v := 0) hx hb dX3_hasOf_0 (by decide) ?_
  refine lv_istore_n (lv' := [(3, .int 0), (0, .ref b0), (1, .int x0), (2, .int x1)]) hx hb dX3_hasOf_1 rfl hl (by decide) rfl (fun ls hl => ?_)
  refine lv_iconst (v := 0) hx hb dX3_hasOf_2 (by decide) ?_
  refine lv_istore (lv' := [(4, .int 0), (3, .int 0), (0, .ref b0), (1, .int x0), (2, .int x1)]) hx hb dX3_hasOf_3 hl (by decide) rfl (fun ls hl => ?_)
  exact loop5 40 0 0 rfl (by simp only [j_X3_hasOf]) ls (lv_sub (l' := [(4, .int (nI 0)), (3, .int 0), (0, .ref b0), (1, .int x0), (2, .int x1)]) hl [0, 1, 2, 3, 4] rfl)

abbrev rX3_hasDated : Room := { frames := 2, cells := 0, slots := 0, locals := 44 }
def j_X3_hasDated (uplace : Nat → Int32) (x0 : Int32) : Int32 := (if j_X3_hasOf uplace x0 0 = 0 then (if j_X3_hasOf uplace x0 1 = 0 then (if j_X3_hasOf uplace x0 2 = 0 then (if j_X3_hasOf uplace x0 3 = 0 then 0 else 1) else 1) else 1) else 1)
set_option maxRecDepth 100000 in
set_option maxHeartbeats 4000000 in
theorem c_X3_hasDated {l : Launch} {D : va_G} (b0 : Nat) (bP : Nat) (bR : Nat) (bS : Nat) (bT : Nat) (bG : Nat) (bW : Nat) (bH : Nat) (bO : Nat) (cP : ClassId) (cR : ClassId) (cS : ClassId) (cT : ClassId) (cG : ClassId) (cW : ClassId) (cH : ClassId) (cO : ClassId) (uplace : Nat → Int32) (urow : Nat → Int32) (upts : Nat → Int32) (utks : Nat → Int32) (uglv : Nat → Int32) (uwin : Nat → Int32) (uheld : Nat → Int32) (utab : Nat → Int32) (udrawn : Int32) (udealt : Int32) (uon : Int32) (uturn : Int32) (uled : Int32) (utr : Int32) (uthr : Int32) (x0 : Int32) : jR l yX3_hasDated wsX3_hasDated rX3_hasDated D [.ref b0, .int x0] (jM b0 bP bR bS bT bG bW bH bO cP cR cS cT cG cW cH cO uplace urow upts utks uglv uwin uheld utab udrawn udealt uon uturn uled utr uthr) [(cP, .int), (cR, .int), (cS, .int), (cT, .int), (cG, .int), (cW, .int), (cH, .int), (cO, .int)] (.int (j_X3_hasDated uplace x0)) := by
  refine jR_of (cc := cX3_hasDated) (maxL := 2) (ret := (some .boolean)) (by decide) rfl ⟨by decide, by decide⟩ ?_
  intro p e s m below meth c ls S hr hlocks hP hK hN hl
  obtain ⟨hx, hb, hml, hown, hts⟩ := id S
  have hl : lv_has ls 2 [(0, .ref b0), (1, .int x0)] := hl
  refine lv_aload_n hx hb dX3_hasDated_0 rfl (lv_at hl 0 rfl) ?_
  refine lv_iload_n hx hb dX3_hasDated_1 rfl (lv_at hl 1 rfl) ?_
  refine lv_iconst (v := 0) hx hb dX3_hasDated_2 (by decide) ?_
  refine jr_callV (C := RX3) (As := [.int x0, .int 0]) (rest := []) S (c_X3_hasOf b0 bP bR bS bT bG bW bH bO cP cR cS cT cG cW cH cO uplace urow upts utks uglv uwin uheld utab udrawn udealt uon uturn uled utr uthr x0 0) gX3_hasDated_X3_hasOf rfl (by decide +kernel) ⟨⟨rfl, rfl⟩, ⟨Nat.le_of_ble_eq_true rfl, Nat.le_of_ble_eq_true rfl⟩, Nat.le_of_ble_eq_true rfl, Nat.le_of_ble_eq_true rfl⟩ hP hK hN [0, 1, 2, 3, 4, 5, 6, 7, 8] [0, 1, 2, 3, 4, 5, 6, 7] rfl rfl 0 3 rfl rfl rfl (lv_nil hl) rfl (Nat.le_of_ble_eq_true rfl) dX3_hasDated_3 ?_
  refine lv_if_ne (tgt := 36) hx hb dX3_hasDated_6 (by decide) (fun c_1 => ?_) (fun c_1 => ?_)
  · skip
    refine lv_iconst (v := 1) hx hb dX3_hasDated_36 (by decide) ?_
    refine lv_goto (tgt := 41) hx hb dX3_hasDated_37 (by decide) ?_
    exact jr_zret hx hb hr hlocks dX3_hasDated_41 rfl (by simp only [j_X3_hasDated, if_neg c_1])
  · skip
    refine lv_aload_n hx hb dX3_hasDated_9 rfl (lv_at hl 0 rfl) ?_
    refine lv_iload_n hx hb dX3_hasDated_10 rfl (lv_at hl 1 rfl) ?_
    refine lv_iconst (v := 1) hx hb dX3_hasDated_11 (by decide) ?_
    refine jr_callV (C := RX3) (As := [.int x0, .int 1]) (rest := []) S (c_X3_hasOf b0 bP bR bS bT bG bW bH bO cP cR cS cT cG cW cH cO uplace urow upts utks uglv uwin uheld utab udrawn udealt uon uturn uled utr uthr x0 1) gX3_hasDated_X3_hasOf rfl (by decide +kernel) ⟨⟨rfl, rfl⟩, ⟨Nat.le_of_ble_eq_true rfl, Nat.le_of_ble_eq_true rfl⟩, Nat.le_of_ble_eq_true rfl, Nat.le_of_ble_eq_true rfl⟩ hP hK hN [0, 1, 2, 3, 4, 5, 6, 7, 8] [0, 1, 2, 3, 4, 5, 6, 7] rfl rfl 0 3 rfl rfl rfl (lv_nil hl) rfl (Nat.le_of_ble_eq_true rfl) dX3_hasDated_12 ?_
    refine lv_if_ne (tgt := 36) hx hb dX3_hasDated_15 (by decide) (fun c_2 => ?_) (fun c_2 => ?_)
    · skip
      refine lv_iconst (v := 1) hx hb dX3_hasDated_36 (by decide) ?_
      refine lv_goto (tgt := 41) hx hb dX3_hasDated_37 (by decide) ?_
      exact jr_zret hx hb hr hlocks dX3_hasDated_41 rfl (by simp only [j_X3_hasDated, if_pos c_1, if_neg c_2])
    · skip
      refine lv_aload_n hx hb dX3_hasDated_18 rfl (lv_at hl 0 rfl) ?_
      refine lv_iload_n hx hb dX3_hasDated_19 rfl (lv_at hl 1 rfl) ?_
      refine lv_iconst (v := 2) hx hb dX3_hasDated_20 (by decide) ?_
      refine jr_callV (C := RX3) (As := [.int x0, .int 2]) (rest := []) S (c_X3_hasOf b0 bP bR bS bT bG bW bH bO cP cR cS cT cG cW cH cO uplace urow upts utks uglv uwin uheld utab udrawn udealt uon uturn uled utr uthr x0 2) gX3_hasDated_X3_hasOf rfl (by decide +kernel) ⟨⟨rfl, rfl⟩, ⟨Nat.le_of_ble_eq_true rfl, Nat.le_of_ble_eq_true rfl⟩, Nat.le_of_ble_eq_true rfl, Nat.le_of_ble_eq_true rfl⟩ hP hK hN [0, 1, 2, 3, 4, 5, 6, 7, 8] [0, 1, 2, 3, 4, 5, 6, 7] rfl rfl 0 3 rfl rfl rfl (lv_nil hl) rfl (Nat.le_of_ble_eq_true rfl) dX3_hasDated_21 ?_
      refine lv_if_ne (tgt := 36) hx hb dX3_hasDated_24 (by decide) (fun c_3 => ?_) (fun c_3 => ?_)
      · skip
        refine lv_iconst (v := 1) hx hb dX3_hasDated_36 (by decide) ?_
        refine lv_goto (tgt := 41) hx hb dX3_hasDated_37 (by decide) ?_
        exact jr_zret hx hb hr hlocks dX3_hasDated_41 rfl (by simp only [j_X3_hasDated, if_pos c_1, if_pos c_2, if_neg c_3])
      · skip
        refine lv_aload_n hx hb dX3_hasDated_27 rfl (lv_at hl 0 rfl) ?_
        refine lv_iload_n hx hb dX3_hasDated_28 rfl (lv_at hl 1 rfl) ?_
        refine lv_iconst (v := 3) hx hb dX3_hasDated_29 (by decide) ?_
        refine jr_callV (C := RX3) (As := [.int x0, .int 3]) (rest := []) S (c_X3_hasOf b0 bP bR bS bT bG bW bH bO cP cR cS cT cG cW cH cO uplace urow upts utks uglv uwin uheld utab udrawn udealt uon uturn uled utr uthr x0 3) gX3_hasDated_X3_hasOf rfl (by decide +kernel) ⟨⟨rfl, rfl⟩, ⟨Nat.le_of_ble_eq_true rfl, Nat.le_of_ble_eq_true rfl⟩, Nat.le_of_ble_eq_true rfl, Nat.le_of_ble_eq_true rfl⟩ hP hK hN [0, 1, 2, 3, 4, 5, 6, 7, 8] [0, 1, 2, 3, 4, 5, 6, 7] rfl rfl 0 3 rfl rfl rfl (lv_nil hl) rfl (Nat.le_of_ble_eq_true rfl) dX3_hasDated_30 ?_
        refine lv_if_eq (tgt := 40) hx hb dX3_hasDated_33 (by decide) (fun c_4 => ?_) (fun c_4 => ?_)
        · skip
          refine lv_iconst (v := 0) hx hb dX3_hasDated_40 (by decide) ?_
          exact jr_zret hx hb hr hlocks dX3_hasDated_41 rfl (by simp only [j_X3_hasDated, if_pos c_1, if_pos c_2, if_pos c_3, if_pos c_4])
        · skip
          refine lv_iconst (v := 1) hx hb dX3_hasDated_36 (by decide) ?_
          refine lv_goto (tgt := 41) hx hb dX3_hasDated_37 (by decide) ?_
          exact jr_zret hx hb hr hlocks dX3_hasDated_41 rfl (by simp only [j_X3_hasDated, if_pos c_1, if_pos c_2, if_pos c_3, if_neg c_4])

abbrev rX3_why : Room := { frames := 3, cells := 0, slots := 0, locals := 65 }
def j_X3_why (uplace : Nat → Int32) (udrawn : Int32) (udealt : Int32) (uon : Int32) (uturn : Int32) (uled : Int32) (utr : Int32) (x0 : Int32) : Int32 := (if uon = 0 then 1 else (if uplace (x0).toNatClampNeg = uturn then (if 0 ≤ uled then (if 0 < j_X3_inPile udrawn udealt then 0 else (if j_X3_isMildew uled = 0 then (if j_X3_hasOf uplace uturn (j_X3_provenance uled) = 0 then (if j_X3_hasOf uplace uturn utr = 0 then 0 else (if j_X3_isTrump utr x0 = 0 then 5 else 0)) else (if j_X3_isMildew x0 = 0 then (if j_X3_provenance x0 = j_X3_provenance uled then 0 else 4) else 4)) else 0)) else (if j_X3_isMildew x0 = 0 then 0 else (if j_X3_hasDated uplace uturn = 0 then 0 else 3))) else 2))
theorem inX3_why_X3 : ∀ w ∈ u_ws RX3 TX3 15, w ∈ wsX3_why := by decide +kernel
set_option maxRecDepth 100000 in
set_option maxHeartbeats 4000000 in
theorem c_X3_why {l : Launch} {D : va_G} (b0 : Nat) (bP : Nat) (bR : Nat) (bS : Nat) (bT : Nat) (bG : Nat) (bW : Nat) (bH : Nat) (bO : Nat) (cP : ClassId) (cR : ClassId) (cS : ClassId) (cT : ClassId) (cG : ClassId) (cW : ClassId) (cH : ClassId) (cO : ClassId) (uplace : Nat → Int32) (urow : Nat → Int32) (upts : Nat → Int32) (utks : Nat → Int32) (uglv : Nat → Int32) (uwin : Nat → Int32) (uheld : Nat → Int32) (utab : Nat → Int32) (udrawn : Int32) (udealt : Int32) (uon : Int32) (uturn : Int32) (uled : Int32) (utr : Int32) (uthr : Int32) (x0 : Int32) (hc : vp_in x0 42) : jR l yX3_why wsX3_why rX3_why D [.ref b0, .int x0] (jM b0 bP bR bS bT bG bW bH bO cP cR cS cT cG cW cH cO uplace urow upts utks uglv uwin uheld utab udrawn udealt uon uturn uled utr uthr) [(cP, .int), (cR, .int), (cS, .int), (cT, .int), (cG, .int), (cW, .int), (cH, .int), (cO, .int)] (.int (j_X3_why uplace udrawn udealt uon uturn uled utr x0)) := by
  refine jR_of (cc := cX3_why) (maxL := 2) (ret := (some .int)) (by decide) rfl ⟨by decide, by decide⟩ ?_
  intro p e s m below meth c ls S hr hlocks hP hK hN hl
  obtain ⟨hx, hb, hml, hown, hts⟩ := id S
  have hl : lv_has ls 2 [(0, .ref b0), (1, .int x0)] := hl
  refine lv_aload_n hx hb dX3_why_0 rfl (lv_at hl 0 rfl) ?_
  refine va_get (D := D) (ci := 3) (v := .int uon) (C := RX3) (T := TX3) (N := 15) hx hb hts inX3_why_X3 hown hK hP 0 rfl rfl 4 (by decide) (hts (.fieldLink RX3 72 "ArchivistTricksModel" "isOn" "Z") (by decide +kernel)) (fun _ h9 => h9) rfl dX3_why_1 ?_
  refine lv_if_ne (tgt := 9) hx hb dX3_why_4 (by decide) (fun c_1 => ?_) (fun c_1 => ?_)
  · skip
    refine lv_aload_n hx hb dX3_why_9 rfl (lv_at hl 0 rfl) ?_
    refine va_get (D := D) (ci := 3) (v := .ref bP) (C := RX3) (T := TX3) (N := 15) hx hb hts inX3_why_X3 hown hK hP 0 rfl rfl 0 (by decide) (hts (.fieldLink RX3 7 "ArchivistTricksModel" "place" "[I") (by decide +kernel)) (fun _ h9 => h9) rfl dX3_why_10 ?_
    refine lv_iload_n hx hb dX3_why_13 rfl (lv_at hl 1 rfl) ?_
    refine va_iald hx hb hK hP 1 0 rfl rfl (i := x0) hc dX3_why_14 ?_
    refine lv_aload_n hx hb dX3_why_15 rfl (lv_at hl 0 rfl) ?_
    refine va_get (D := D) (ci := 3) (v := .int uturn) (C := RX3) (T := TX3) (N := 15) hx hb hts inX3_why_X3 hown hK hP 0 rfl rfl 5 (by decide) (hts (.fieldLink RX3 69 "ArchivistTricksModel" "turn" "I") (by decide +kernel)) (fun _ h9 => h9) rfl dX3_why_16 ?_
    refine lv_icmp_eq (tgt := 24) hx hb dX3_why_19 (by decide) (fun c_2 => ?_) (fun c_2 => ?_)
    · skip
      refine lv_aload_n hx hb dX3_why_24 rfl (lv_at hl 0 rfl) ?_
      refine va_get (D := D) (ci := 3) (v := .int uled) (C := RX3) (T := TX3) (N := 15) hx hb hts inX3_why_X3 hown hK hP 0 rfl rfl 6 (by decide) (hts (.fieldLink RX3 16 "ArchivistTricksModel" "ledCard" "I") (by decide +kernel)) (fun _ h9 => h9) rfl dX3_why_25 ?_
      refine lv_if_ge (tgt := 55) hx hb dX3_why_28 (by decide) (fun c_3 => ?_) (fun c_3 => ?_)
      · skip
        refine lv_aload_n hx hb dX3_why_55 rfl (lv_at hl 0 rfl) ?_
        refine jr_callV (C := RX3) (As := []) (rest := []) S (c_X3_inPile b0 bP bR bS bT bG bW bH bO cP cR cS cT cG cW cH cO uplace urow upts utks uglv uwin uheld utab udrawn udealt uon uturn uled utr uthr) gX3_why_X3_inPile rfl (by decide +kernel) ⟨⟨rfl, rfl⟩, ⟨Nat.le_of_ble_eq_true rfl, Nat.le_of_ble_eq_true rfl⟩, Nat.le_of_ble_eq_true rfl, Nat.le_of_ble_eq_true rfl⟩ hP hK hN [0, 1, 2, 3, 4, 5, 6, 7, 8] [0, 1, 2, 3, 4, 5, 6, 7] rfl rfl 0 3 rfl rfl rfl (lv_nil hl) rfl (Nat.le_of_ble_eq_true rfl) dX3_why_56 ?_
        refine lv_if_gt (tgt := 72) hx hb dX3_why_59 (by decide) (fun c_4 => ?_) (fun c_4 => ?_)
        · skip
          refine lv_iconst (v := 0) hx hb dX3_why_72 (by decide) ?_
          exact jr_iret hx hb hr hlocks dX3_why_73 (by simp only [j_X3_why, if_neg c_1, if_pos c_2, if_pos c_3, if_pos c_4])
        · skip
          refine lv_aload_n hx hb dX3_why_62 rfl (lv_at hl 0 rfl) ?_
          refine va_get (D := D) (ci := 3) (v := .int uled) (C := RX3) (T := TX3) (N := 15) hx hb hts inX3_why_X3 hown hK hP 0 rfl rfl 6 (by decide) (hts (.fieldLink RX3 16 "ArchivistTricksModel" "ledCard" "I") (by decide +kernel)) (fun _ h9 => h9) rfl dX3_why_63 ?_
          refine jr_callS (As := [.int uled]) (rest := []) S (c_X3_isMildew uled) gX3_why_X3_isMildew rfl (by decide +kernel) ⟨⟨rfl, rfl⟩, ⟨Nat.le_of_ble_eq_true rfl, Nat.le_of_ble_eq_true rfl⟩, Nat.le_of_ble_eq_true rfl, Nat.le_of_ble_eq_true rfl⟩ hP hK hN [] [] rfl rfl (lv_nil hl) rfl (Nat.le_of_ble_eq_true rfl) dX3_why_66 ?_
          refine lv_if_eq (tgt := 74) hx hb dX3_why_69 (by decide) (fun c_5 => ?_) (fun c_5 => ?_)
          · skip
            refine lv_aload_n hx hb dX3_why_74 rfl (lv_at hl 0 rfl) ?_
            refine lv_aload_n hx hb dX3_why_75 rfl (lv_at hl 0 rfl) ?_
            refine va_get (D := D) (ci := 3) (v := .int uturn) (C := RX3) (T := TX3) (N := 15) hx hb hts inX3_why_X3 hown hK hP 0 rfl rfl 5 (by decide) (hts (.fieldLink RX3 69 "ArchivistTricksModel" "turn" "I") (by decide +kernel)) (fun _ h9 => h9) rfl dX3_why_76 ?_
            refine lv_aload_n hx hb dX3_why_79 rfl (lv_at hl 0 rfl) ?_
            refine va_get (D := D) (ci := 3) (v := .int uled) (C := RX3) (T := TX3) (N := 15) hx hb hts inX3_why_X3 hown hK hP 0 rfl rfl 6 (by decide) (hts (.fieldLink RX3 16 "ArchivistTricksModel" "ledCard" "I") (by decide +kernel)) (fun _ h9 => h9) rfl dX3_why_80 ?_
            refine jr_callS (As := [.int uled]) (rest := [.int uturn, .ref b0]) S (c_X3_provenance uled) gX3_why_X3_provenance rfl (by decide +kernel) ⟨⟨rfl, rfl⟩, ⟨Nat.le_of_ble_eq_true rfl, Nat.le_of_ble_eq_true rfl⟩, Nat.le_of_ble_eq_true rfl, Nat.le_of_ble_eq_true rfl⟩ hP hK hN [] [] rfl rfl (lv_nil hl) rfl (Nat.le_of_ble_eq_true rfl) dX3_why_83 ?_
            refine jr_callV (C := RX3) (As := [.int uturn, .int (j_X3_provenance uled)]) (rest := []) S (c_X3_hasOf b0 bP bR bS bT bG bW bH bO cP cR cS cT cG cW cH cO uplace urow upts utks uglv uwin uheld utab udrawn udealt uon uturn uled utr uthr uturn (j_X3_provenance uled)) gX3_why_X3_hasOf rfl (by decide +kernel) ⟨⟨rfl, rfl⟩, ⟨Nat.le_of_ble_eq_true rfl, Nat.le_of_ble_eq_true rfl⟩, Nat.le_of_ble_eq_true rfl, Nat.le_of_ble_eq_true rfl⟩ hP hK hN [0, 1, 2, 3, 4, 5, 6, 7, 8] [0, 1, 2, 3, 4, 5, 6, 7] rfl rfl 0 3 rfl rfl rfl (lv_nil hl) rfl (Nat.le_of_ble_eq_true rfl) dX3_why_86 ?_
            refine lv_if_eq (tgt := 119) hx hb dX3_why_89 (by decide) (fun c_6 => ?_) (fun c_6 => ?_)
            · skip
              refine lv_aload_n hx hb dX3_why_119 rfl (lv_at hl 0 rfl) ?_
              refine lv_aload_n hx hb dX3_why_120 rfl (lv_at hl 0 rfl) ?_
              refine va_get (D := D) (ci := 3) (v := .int uturn) (C := RX3) (T := TX3) (N := 15) hx hb hts inX3_why_X3 hown hK hP 0 rfl rfl 5 (by decide) (hts (.fieldLink RX3 69 "ArchivistTricksModel" "turn" "I") (by decide +kernel)) (fun _ h9 => h9) rfl dX3_why_121 ?_
              refine lv_aload_n hx hb dX3_why_124 rfl (lv_at hl 0 rfl) ?_
              refine va_get (D := D) (ci := 3) (v := .int utr) (C := RX3) (T := TX3) (N := 15) hx hb hts inX3_why_X3 hown hK hP 0 rfl rfl 7 (by decide) (hts (.fieldLink RX3 20 "ArchivistTricksModel" "trumps" "I") (by decide +kernel)) (fun _ h9 => h9) rfl dX3_why_125 ?_
              refine jr_callV (C := RX3) (As := [.int uturn, .int utr]) (rest := []) S (c_X3_hasOf b0 bP bR bS bT bG bW bH bO cP cR cS cT cG cW cH cO uplace urow upts utks uglv uwin uheld utab udrawn udealt uon uturn uled utr uthr uturn utr) gX3_why_X3_hasOf rfl (by decide +kernel) ⟨⟨rfl, rfl⟩, ⟨Nat.le_of_ble_eq_true rfl, Nat.le_of_ble_eq_true rfl⟩, Nat.le_of_ble_eq_true rfl, Nat.le_of_ble_eq_true rfl⟩ hP hK hN [0, 1, 2, 3, 4, 5, 6, 7, 8] [0, 1, 2, 3, 4, 5, 6, 7] rfl rfl 0 3 rfl rfl rfl (lv_nil hl) rfl (Nat.le_of_ble_eq_true rfl) dX3_why_128 ?_
              refine lv_if_eq (tgt := 146) hx hb dX3_why_131 (by decide) (fun c_7 => ?_) (fun c_7 => ?_)
              · skip
                refine lv_iconst (v := 0) hx hb dX3_why_146 (by decide) ?_
                exact jr_iret hx hb hr hlocks dX3_why_147 (by simp only [j_X3_why, if_neg c_1, if_pos c_2, if_pos c_3, if_neg c_4, if_pos c_5, if_pos c_6, if_pos c_7])
              · skip
                refine lv_aload_n hx hb dX3_why_134 rfl (lv_at hl 0 rfl) ?_
                refine lv_iload_n hx hb dX3_why_135 rfl (lv_at hl 1 rfl) ?_
                refine jr_callV (C := RX3) (As := [.int x0]) (rest := []) S (c_X3_isTrump b0 bP bR bS bT bG bW bH bO cP cR cS cT cG cW cH cO uplace urow upts utks uglv uwin uheld utab udrawn udealt uon uturn uled utr uthr x0) gX3_why_X3_isTrump rfl (by decide +kernel) ⟨⟨rfl, rfl⟩, ⟨Nat.le_of_ble_eq_true rfl, Nat.le_of_ble_eq_true rfl⟩, Nat.le_of_ble_eq_true rfl, Nat.le_of_ble_eq_true rfl⟩ hP hK hN [0, 1, 2, 3, 4, 5, 6, 7, 8] [0, 1, 2, 3, 4, 5, 6, 7] rfl rfl 0 3 rfl rfl rfl (lv_nil hl) rfl (Nat.le_of_ble_eq_true rfl) dX3_why_136 ?_
                refine lv_if_ne (tgt := 146) hx hb dX3_why_139 (by decide) (fun c_8 => ?_) (fun c_8 => ?_)
                · skip
                  refine lv_iconst (v := 0) hx hb dX3_why_146 (by decide) ?_
                  exact jr_iret hx hb hr hlocks dX3_why_147 (by simp only [j_X3_why, if_neg c_1, if_pos c_2, if_pos c_3, if_neg c_4, if_pos c_5, if_pos c_6, if_neg c_7, if_neg c_8])
                · skip
                  refine lv_iconst (v := 5) hx hb dX3_why_142 (by decide) ?_
                  refine lv_goto (tgt := 147) hx hb dX3_why_143 (by decide) ?_
                  exact jr_iret hx hb hr hlocks dX3_why_147 (by simp only [j_X3_why, if_neg c_1, if_pos c_2, if_pos c_3, if_neg c_4, if_pos c_5, if_pos c_6, if_neg c_7, if_pos c_8])
            · skip
              refine lv_iload_n hx hb dX3_why_92 rfl (lv_at hl 1 rfl) ?_
              refine jr_callS (As := [.int x0]) (rest := []) S (c_X3_isMildew x0) gX3_why_X3_isMildew rfl (by decide +kernel) ⟨⟨rfl, rfl⟩, ⟨Nat.le_of_ble_eq_true rfl, Nat.le_of_ble_eq_true rfl⟩, Nat.le_of_ble_eq_true rfl, Nat.le_of_ble_eq_true rfl⟩ hP hK hN [] [] rfl rfl (lv_nil hl) rfl (Nat.le_of_ble_eq_true rfl) dX3_why_93 ?_
              refine lv_if_ne (tgt := 117) hx hb dX3_why_96 (by decide) (fun c_9 => ?_) (fun c_9 => ?_)
              · skip
                refine lv_iconst (v := 4) hx hb dX3_why_117 (by decide) ?_
                exact jr_iret hx hb hr hlocks dX3_why_118 (by simp only [j_X3_why, if_neg c_1, if_pos c_2, if_pos c_3, if_neg c_4, if_pos c_5, if_neg c_6, if_neg c_9])
              · skip
                refine lv_iload_n hx hb dX3_why_99 rfl (lv_at hl 1 rfl) ?_
                refine jr_callS (As := [.int x0]) (rest := []) S (c_X3_provenance x0) gX3_why_X3_provenance rfl (by decide +kernel) ⟨⟨rfl, rfl⟩, ⟨Nat.le_of_ble_eq_true rfl, Nat.le_of_ble_eq_true rfl⟩, Nat.le_of_ble_eq_true rfl, Nat.le_of_ble_eq_true rfl⟩ hP hK hN [] [] rfl rfl (lv_nil hl) rfl (Nat.le_of_ble_eq_true rfl) dX3_why_100 ?_
                refine lv_aload_n hx hb dX3_why_103 rfl (lv_at hl 0 rfl) ?_
                refine va_get (D := D) (ci := 3) (v := .int uled) (C := RX3) (T := TX3) (N := 15) hx hb hts inX3_why_X3 hown hK hP 0 rfl rfl 6 (by decide) (hts (.fieldLink RX3 16 "ArchivistTricksModel" "ledCard" "I") (by decide +kernel)) (fun _ h9 => h9) rfl dX3_why_104 ?_
                refine jr_callS (As := [.int uled]) (rest := [.int (j_X3_provenance x0)]) S (c_X3_provenance uled) gX3_why_X3_provenance rfl (by decide +kernel) ⟨⟨rfl, rfl⟩, ⟨Nat.le_of_ble_eq_true rfl, Nat.le_of_ble_eq_true rfl⟩, Nat.le_of_ble_eq_true rfl, Nat.le_of_ble_eq_true rfl⟩ hP hK hN [] [] rfl rfl (lv_nil hl) rfl (Nat.le_of_ble_eq_true rfl) dX3_why_107 ?_
                refine lv_icmp_ne (tgt := 117) hx hb dX3_why_110 (by decide) (fun c_10 => ?_) (fun c_10 => ?_)
                · skip
                  refine lv_iconst (v := 4) hx hb dX3_why_117 (by decide) ?_
                  exact jr_iret hx hb hr hlocks dX3_why_118 (by simp only [j_X3_why, if_neg c_1, if_pos c_2, if_pos c_3, if_neg c_4, if_pos c_5, if_neg c_6, if_pos c_9, if_neg c_10])
                · skip
                  refine lv_iconst (v := 0) hx hb dX3_why_113 (by decide) ?_
                  refine lv_goto (tgt := 118) hx hb dX3_why_114 (by decide) ?_
                  exact jr_iret hx hb hr hlocks dX3_why_118 (by simp only [j_X3_why, if_neg c_1, if_pos c_2, if_pos c_3, if_neg c_4, if_pos c_5, if_neg c_6, if_pos c_9, if_pos c_10])
          · skip
            refine lv_iconst (v := 0) hx hb dX3_why_72 (by decide) ?_
            exact jr_iret hx hb hr hlocks dX3_why_73 (by simp only [j_X3_why, if_neg c_1, if_pos c_2, if_pos c_3, if_neg c_4, if_neg c_5])
      · skip
        refine lv_iload_n hx hb dX3_why_31 rfl (lv_at hl 1 rfl) ?_
        refine jr_callS (As := [.int x0]) (rest := []) S (c_X3_isMildew x0) gX3_why_X3_isMildew rfl (by decide +kernel) ⟨⟨rfl, rfl⟩, ⟨Nat.le_of_ble_eq_true rfl, Nat.le_of_ble_eq_true rfl⟩, Nat.le_of_ble_eq_true rfl, Nat.le_of_ble_eq_true rfl⟩ hP hK hN [] [] rfl rfl (lv_nil hl) rfl (Nat.le_of_ble_eq_true rfl) dX3_why_32 ?_
        refine lv_if_eq (tgt := 53) hx hb dX3_why_35 (by decide) (fun c_11 => ?_) (fun c_11 => ?_)
        · skip
          refine lv_iconst (v := 0) hx hb dX3_why_53 (by decide) ?_
          exact jr_iret hx hb hr hlocks dX3_why_54 (by simp only [j_X3_why, if_neg c_1, if_pos c_2, if_neg c_3, if_pos c_11])
        · skip
          refine lv_aload_n hx hb dX3_why_38 rfl (lv_at hl 0 rfl) ?_
          refine lv_aload_n hx hb dX3_why_39 rfl (lv_at hl 0 rfl) ?_
          refine va_get (D := D) (ci := 3) (v := .int uturn) (C := RX3) (T := TX3) (N := 15) hx hb hts inX3_why_X3 hown hK hP 0 rfl rfl 5 (by decide) (hts (.fieldLink RX3 69 "ArchivistTricksModel" "turn" "I") (by decide +kernel)) (fun _ h9 => h9) rfl dX3_why_40 ?_
          refine jr_callV (C := RX3) (As := [.int uturn]) (rest := []) S (c_X3_hasDated b0 bP bR bS bT bG bW bH bO cP cR cS cT cG cW cH cO uplace urow upts utks uglv uwin uheld utab udrawn udealt uon uturn uled utr uthr uturn) gX3_why_X3_hasDated rfl (by decide +kernel) ⟨⟨rfl, rfl⟩, ⟨Nat.le_of_ble_eq_true rfl, Nat.le_of_ble_eq_true rfl⟩, Nat.le_of_ble_eq_true rfl, Nat.le_of_ble_eq_true rfl⟩ hP hK hN [0, 1, 2, 3, 4, 5, 6, 7, 8] [0, 1, 2, 3, 4, 5, 6, 7] rfl rfl 0 3 rfl rfl rfl (lv_nil hl) rfl (Nat.le_of_ble_eq_true rfl) dX3_why_43 ?_
          refine lv_if_eq (tgt := 53) hx hb dX3_why_46 (by decide) (fun c_12 => ?_) (fun c_12 => ?_)
          · skip
            refine lv_iconst (v := 0) hx hb dX3_why_53 (by decide) ?_
            exact jr_iret hx hb hr hlocks dX3_why_54 (by simp only [j_X3_why, if_neg c_1, if_pos c_2, if_neg c_3, if_neg c_11, if_pos c_12])
          · skip
            refine lv_iconst (v := 3) hx hb dX3_why_49 (by decide) ?_
            refine lv_goto (tgt := 54) hx hb dX3_why_50 (by decide) ?_
            exact jr_iret hx hb hr hlocks dX3_why_54 (by simp only [j_X3_why, if_neg c_1, if_pos c_2, if_neg c_3, if_neg c_11, if_neg c_12])
    · skip
      refine lv_iconst (v := 2) hx hb dX3_why_22 (by decide) ?_
      exact jr_iret hx hb hr hlocks dX3_why_23 (by simp only [j_X3_why, if_neg c_1, if_neg c_2])
  · skip
    refine lv_iconst (v := 1) hx hb dX3_why_7 (by decide) ?_
    exact jr_iret hx hb hr hlocks dX3_why_8 (by simp only [j_X3_why, if_pos c_1])

abbrev rX3_wornNow : Room := { frames := 0, cells := 0, slots := 0, locals := 0 }
def j_X3_wornNow (uglv : Nat → Int32) : Int32 := (if uglv (0 : Int32).toNatClampNeg = 1 then (if uglv (1 : Int32).toNatClampNeg = 1 then 1 + 2 else 1 + 0) else (if uglv (1 : Int32).toNatClampNeg = 1 then 0 + 2 else 0 + 0))
theorem inX3_wornNow_X3 : ∀ w ∈ u_ws RX3 TX3 15, w ∈ wsX3_wornNow := by decide +kernel
set_option maxRecDepth 100000 in
set_option maxHeartbeats 4000000 in
theorem c_X3_wornNow {l : Launch} {D : va_G} (b0 : Nat) (bP : Nat) (bR : Nat) (bS : Nat) (bT : Nat) (bG : Nat) (bW : Nat) (bH : Nat) (bO : Nat) (cP : ClassId) (cR : ClassId) (cS : ClassId) (cT : ClassId) (cG : ClassId) (cW : ClassId) (cH : ClassId) (cO : ClassId) (uplace : Nat → Int32) (urow : Nat → Int32) (upts : Nat → Int32) (utks : Nat → Int32) (uglv : Nat → Int32) (uwin : Nat → Int32) (uheld : Nat → Int32) (utab : Nat → Int32) (udrawn : Int32) (udealt : Int32) (uon : Int32) (uturn : Int32) (uled : Int32) (utr : Int32) (uthr : Int32) : jR l yX3_wornNow wsX3_wornNow rX3_wornNow D [.ref b0] (jM b0 bP bR bS bT bG bW bH bO cP cR cS cT cG cW cH cO uplace urow upts utks uglv uwin uheld utab udrawn udealt uon uturn uled utr uthr) [(cP, .int), (cR, .int), (cS, .int), (cT, .int), (cG, .int), (cW, .int), (cH, .int), (cO, .int)] (.int (j_X3_wornNow uglv)) := by
  refine jR_of (cc := cX3_wornNow) (maxL := 1) (ret := (some .int)) (by decide) rfl ⟨by decide, by decide⟩ ?_
  intro p e s m below meth c ls S hr hlocks hP hK hN hl
  obtain ⟨hx, hb, hml, hown, hts⟩ := id S
  have hl : lv_has ls 1 [(0, .ref b0)] := hl
  refine lv_aload_n hx hb dX3_wornNow_0 rfl (lv_at hl 0 rfl) ?_
  refine va_get (D := D) (ci := 3) (v := .ref bG) (C := RX3) (T := TX3) (N := 15) hx hb hts inX3_wornNow_X3 hown hK hP 0 rfl rfl 10 (by decide) (hts (.fieldLink RX3 29 "ArchivistTricksModel" "gloves" "[I") (by decide +kernel)) (fun _ h9 => h9) rfl dX3_wornNow_1 ?_
  refine lv_iconst (v := 0) hx hb dX3_wornNow_4 (by decide) ?_
  refine va_iald hx hb hK hP 5 4 rfl rfl (i := 0) (by unfold vp_in; decide) dX3_wornNow_5 ?_
  refine lv_iconst (v := 1) hx hb dX3_wornNow_6 (by decide) ?_
  refine lv_icmp_ne (tgt := 14) hx hb dX3_wornNow_7 (by decide) (fun c_1 => ?_) (fun c_1 => ?_)
  · skip
    refine lv_iconst (v := 0) hx hb dX3_wornNow_14 (by decide) ?_
    refine lv_aload_n hx hb dX3_wornNow_15 rfl (lv_at hl 0 rfl) ?_
    refine va_get (D := D) (ci := 3) (v := .ref bG) (C := RX3) (T := TX3) (N := 15) hx hb hts inX3_wornNow_X3 hown hK hP 0 rfl rfl 10 (by decide) (hts (.fieldLink RX3 29 "ArchivistTricksModel" "gloves" "[I") (by decide +kernel)) (fun _ h9 => h9) rfl dX3_wornNow_16 ?_
    refine lv_iconst (v := 1) hx hb dX3_wornNow_19 (by decide) ?_
    refine va_iald hx hb hK hP 5 4 rfl rfl (i := 1) (by unfold vp_in; decide) dX3_wornNow_20 ?_
    refine lv_iconst (v := 1) hx hb dX3_wornNow_21 (by decide) ?_
    refine lv_icmp_ne (tgt := 29) hx hb dX3_wornNow_22 (by decide) (fun c_2 => ?_) (fun c_2 => ?_)
    · skip
      refine lv_iconst (v := 0) hx hb dX3_wornNow_29 (by decide) ?_
      refine lv_iadd hx hb dX3_wornNow_30 ?_
      exact jr_iret hx hb hr hlocks dX3_wornNow_31 (by simp only [j_X3_wornNow, if_neg c_1, if_neg c_2])
    · skip
      refine lv_iconst (v := 2) hx hb dX3_wornNow_25 (by decide) ?_
      refine lv_goto (tgt := 30) hx hb dX3_wornNow_26 (by decide) ?_
      refine lv_iadd hx hb dX3_wornNow_30 ?_
      exact jr_iret hx hb hr hlocks dX3_wornNow_31 (by simp only [j_X3_wornNow, if_neg c_1, if_pos c_2])
  · skip
    refine lv_iconst (v := 1) hx hb dX3_wornNow_10 (by decide) ?_
    refine lv_goto (tgt := 15) hx hb dX3_wornNow_11 (by decide) ?_
    refine lv_aload_n hx hb dX3_wornNow_15 rfl (lv_at hl 0 rfl) ?_
    refine va_get (D := D) (ci := 3) (v := .ref bG) (C := RX3) (T := TX3) (N := 15) hx hb hts inX3_wornNow_X3 hown hK hP 0 rfl rfl 10 (by decide) (hts (.fieldLink RX3 29 "ArchivistTricksModel" "gloves" "[I") (by decide +kernel)) (fun _ h9 => h9) rfl dX3_wornNow_16 ?_
    refine lv_iconst (v := 1) hx hb dX3_wornNow_19 (by decide) ?_
    refine va_iald hx hb hK hP 5 4 rfl rfl (i := 1) (by unfold vp_in; decide) dX3_wornNow_20 ?_
    refine lv_iconst (v := 1) hx hb dX3_wornNow_21 (by decide) ?_
    refine lv_icmp_ne (tgt := 29) hx hb dX3_wornNow_22 (by decide) (fun c_3 => ?_) (fun c_3 => ?_)
    · skip
      refine lv_iconst (v := 0) hx hb dX3_wornNow_29 (by decide) ?_
      refine lv_iadd hx hb dX3_wornNow_30 ?_
      exact jr_iret hx hb hr hlocks dX3_wornNow_31 (by simp only [j_X3_wornNow, if_pos c_1, if_neg c_3])
    · skip
      refine lv_iconst (v := 2) hx hb dX3_wornNow_25 (by decide) ?_
      refine lv_goto (tgt := 30) hx hb dX3_wornNow_26 (by decide) ?_
      refine lv_iadd hx hb dX3_wornNow_30 ?_
      exact jr_iret hx hb hr hlocks dX3_wornNow_31 (by simp only [j_X3_wornNow, if_pos c_1, if_pos c_3])

abbrev rX3_isAmong : Room := { frames := 1, cells := 0, slots := 0, locals := 20 }
def j_X3_isAmong_6 (uheld : Nat → Int32) (x0 : Int32) (x1 : Int32) (x2 : Int32) : Nat → Nat → Int32 → Int32
  | 0, i, y4 => y4
  | n + 1, i, y4 => (if y4 = 0 then (if (x1 >>> ((nI i) &&& 31)) &&& 1 = 1 then (if j_X3_isMildew (uheld ((6 * x0) + (nI i)).toNatClampNeg) = 0 then (if x2 < 0 then j_X3_isAmong_6 uheld x0 x1 x2 n (i + 1) 1 else (if j_X3_provenance (uheld ((6 * x0) + (nI i)).toNatClampNeg) = x2 then j_X3_isAmong_6 uheld x0 x1 x2 n (i + 1) 1 else j_X3_isAmong_6 uheld x0 x1 x2 n (i + 1) 0)) else j_X3_isAmong_6 uheld x0 x1 x2 n (i + 1) 0) else j_X3_isAmong_6 uheld x0 x1 x2 n (i + 1) 0) else j_X3_isAmong_6 uheld x0 x1 x2 n (i + 1) 1)
def j_X3_isAmong (uheld : Nat → Int32) (x0 : Int32) (x1 : Int32) (x2 : Int32) : Int32 := j_X3_isAmong_6 uheld x0 x1 x2 6 0 0
theorem inX3_isAmong_X3 : ∀ w ∈ u_ws RX3 TX3 15, w ∈ wsX3_isAmong := by decide +kernel
set_option maxRecDepth 100000 in
set_option maxHeartbeats 4000000 in
theorem c_X3_isAmong {l : Launch} {D : va_G} (b0 : Nat) (bP : Nat) (bR : Nat) (bS : Nat) (bT : Nat) (bG : Nat) (bW : Nat) (bH : Nat) (bO : Nat) (cP : ClassId) (cR : ClassId) (cS : ClassId) (cT : ClassId) (cG : ClassId) (cW : ClassId) (cH : ClassId) (cO : ClassId) (uplace : Nat → Int32) (urow : Nat → Int32) (upts : Nat → Int32) (utks : Nat → Int32) (uglv : Nat → Int32) (uwin : Nat → Int32) (uheld : Nat → Int32) (utab : Nat → Int32) (udrawn : Int32) (udealt : Int32) (uon : Int32) (uturn : Int32) (uled : Int32) (utr : Int32) (uthr : Int32) (x0 : Int32) (x1 : Int32) (x2 : Int32) (ha : x0 = 0 ∨ x0 = 1) : jR l yX3_isAmong wsX3_isAmong rX3_isAmong D [.ref b0, .int x0, .int x1, .int x2] (jM b0 bP bR bS bT bG bW bH bO cP cR cS cT cG cW cH cO uplace urow upts utks uglv uwin uheld utab udrawn udealt uon uturn uled utr uthr) [(cP, .int), (cR, .int), (cS, .int), (cT, .int), (cG, .int), (cW, .int), (cH, .int), (cO, .int)] (.int (j_X3_isAmong uheld x0 x1 x2)) := by
  refine jR_of (cc := cX3_isAmong) (maxL := 7) (ret := (some .boolean)) (by decide) rfl ⟨by decide, by decide⟩ ?_
  intro p e s m below meth c ls S hr hlocks hP hK hN hl
  obtain ⟨hx, hb, hml, hown, hts⟩ := id S
  have hl : lv_has ls 7 [(0, .ref b0), (1, .int x0), (2, .int x1), (3, .int x2)] := hl
  have loop6 : ∀ (n i : Nat) (y4 : Int32), i + n = 6 → j_X3_isAmong_6 uheld x0 x1 x2 n i y4 = (j_X3_isAmong uheld x0 x1 x2) → ∀ (ls : Array Slot), lv_has ls 7 [(5, .int (nI i)), (4, .int y4), (0, .ref b0), (1, .int x0), (2, .int x1), (3, .int x2)] → W p l e rX3_isAmong s m ([.ref b0, .int x0, .int x1, .int x2] : List Value).toArray below meth c s.heap [] 0 0 (MQ below (k2_QcV (.int (j_X3_isAmong uheld x0 x1 x2))) ([.ref b0, .int x0, .int x1, .int x2] : List Value).toArray s 0 0 (fun _ => False)) (F0 m 6 ls []) := by
    intro n
    induction n with
    | zero =>
      intro i y4 hin hv ls hl
      have hge : (6 : Int32) ≤ nI i := by rw [show i = 6 by omega]; decide
      have hgl : ¬ nI i < (6 : Int32) := by rw [show i = 6 by omega]; decide
      refine lv_iload hx hb dX3_isAmong_6 (lv_at hl 0 rfl) ?_
      refine lv_bipush (v := 6) hx hb dX3_isAmong_8 (by decide) ?_
      refine lv_icmp_ge (tgt := 76) hx hb dX3_isAmong_10 (by decide) (fun _ => ?_) (fun c_ => absurd hge c_)
      refine lv_iload hx hb dX3_isAmong_76 (lv_at hl 1 rfl) ?_
      exact jr_zret hx hb hr hlocks dX3_isAmong_78 (by simp only [narrow]; rfl) (by rw [← hv]; simp only [j_X3_isAmong_6, if_pos hge, if_neg hgl])
    | succ n ih =>
      intro i y4 hin hv ls hl
      have hge : ¬ (6 : Int32) ≤ nI i := nI_ge (a := i) (b := 6) (by omega) (by decide)
      have hgl : nI i < (6 : Int32) := nI_lt (a := i) (b := 6) (by omega) (by decide)
      refine lv_iload hx hb dX3_isAmong_6 (lv_at hl 0 rfl) ?_
      refine lv_bipush (v := 6) hx hb dX3_isAmong_8 (by decide) ?_
      refine lv_icmp_ge (tgt := 76) hx hb dX3_isAmong_10 (by decide) (fun c_ => absurd c_ hge) (fun _ => ?_)
      refine lv_aload_n hx hb dX3_isAmong_13 rfl (lv_at hl 2 rfl) ?_
      refine va_get (D := D) (ci := 3) (v := .ref bH) (C := RX3) (T := TX3) (N := 15) hx hb hts inX3_isAmong_X3 hown hK hP 0 rfl rfl 13 (by decide) (hts (.fieldLink RX3 35 "ArchivistTricksModel" "held" "[I") (by decide +kernel)) (fun _ h9 => h9) rfl dX3_isAmong_14 ?_
      refine lv_bipush (v := 6) hx hb dX3_isAmong_17 (by decide) ?_
      refine lv_iload_n hx hb dX3_isAmong_19 rfl (lv_at hl 3 rfl) ?_
      refine lv_imul hx hb dX3_isAmong_20 ?_
      refine lv_iload hx hb dX3_isAmong_21 (lv_at hl 0 rfl) ?_
      refine lv_iadd hx hb dX3_isAmong_23 ?_
      refine va_iald hx hb hK hP 7 6 rfl rfl (i := (6 * x0) + (nI i)) (jx_held ha (by omega)) dX3_isAmong_24 ?_
      refine lv_istore (lv' := [(6, .int (uheld ((6 * x0) + (nI i)).toNatClampNeg)), (5, .int (nI i)), (4, .int y4), (0, .ref b0), (1, .int x0), (2, .int x1), (3, .int x2)]) hx hb dX3_isAmong_25 hl (by decide) rfl (fun ls hl => ?_)
      refine lv_iload hx hb dX3_isAmong_27 (lv_at hl 2 rfl) ?_
      refine lv_if_ne (tgt := 63) hx hb dX3_isAmong_29 (by decide) (fun c_6001 => ?_) (fun c_6001 => ?_)
      · skip
        refine lv_iconst (v := 1) hx hb dX3_isAmong_63 (by decide) ?_
        refine lv_goto (tgt := 68) hx hb dX3_isAmong_64 (by decide) ?_
        refine lv_istore (lv' := [(4, .int 1), (6, .int (uheld ((6 * x0) + (nI i)).toNatClampNeg)), (5, .int (nI i)), (0, .ref b0), (1, .int x0), (2, .int x1), (3, .int x2)]) hx hb dX3_isAmong_68 hl (by decide) rfl (fun ls hl => ?_)
        refine lv_iinc (v := nI (i + 1)) (lv' := [(5, .int (nI (i + 1))), (4, .int 1), (6, .int (uheld ((6 * x0) + (nI i)).toNatClampNeg)), (0, .ref b0), (1, .int x0), (2, .int x1), (3, .int x2)]) hx hb dX3_isAmong_70 hl (k := 2) rfl (nI_1 i) (by decide) rfl (fun ls hl => ?_)
        refine lv_goto (tgt := 6) hx hb dX3_isAmong_73 (by decide) ?_
        exact ih (i + 1) 1 (by omega) (by rw [← hv]; simp only [j_X3_isAmong_6, if_neg hge, if_pos hgl, if_neg c_6001]) ls (lv_sub hl [0, 1, 3, 4, 5, 6] rfl)
      · skip
        refine lv_iload_n hx hb dX3_isAmong_32 rfl (lv_at hl 5 rfl) ?_
        refine lv_iload hx hb dX3_isAmong_33 (lv_at hl 1 rfl) ?_
        refine lv_ishr hx hb dX3_isAmong_35 ?_
        refine lv_iconst (v := 1) hx hb dX3_isAmong_36 (by decide) ?_
        refine lv_iand hx hb dX3_isAmong_37 ?_
        refine lv_iconst (v := 1) hx hb dX3_isAmong_38 (by decide) ?_
        refine lv_icmp_ne (tgt := 67) hx hb dX3_isAmong_39 (by decide) (fun c_6002 => ?_) (fun c_6002 => ?_)
        · skip
          refine lv_iconst (v := 0) hx hb dX3_isAmong_67 (by decide) ?_
          refine lv_istore (lv' := [(4, .int 0), (6, .int (uheld ((6 * x0) + (nI i)).toNatClampNeg)), (5, .int (nI i)), (0, .ref b0), (1, .int x0), (2, .int x1), (3, .int x2)]) hx hb dX3_isAmong_68 hl (by decide) rfl (fun ls hl => ?_)
          refine lv_iinc (v := nI (i + 1)) (lv' := [(5, .int (nI (i + 1))), (4, .int 0), (6, .int (uheld ((6 * x0) + (nI i)).toNatClampNeg)), (0, .ref b0), (1, .int x0), (2, .int x1), (3, .int x2)]) hx hb dX3_isAmong_70 hl (k := 2) rfl (nI_1 i) (by decide) rfl (fun ls hl => ?_)
          refine lv_goto (tgt := 6) hx hb dX3_isAmong_73 (by decide) ?_
          exact ih (i + 1) 0 (by omega) (by rw [← hv]; simp only [j_X3_isAmong_6, if_neg hge, if_pos hgl, if_pos c_6001, if_neg c_6002]) ls (lv_sub hl [0, 1, 3, 4, 5, 6] rfl)
        · skip
          refine lv_iload hx hb dX3_isAmong_42 (lv_at hl 0 rfl) ?_
          refine jr_callS (As := [.int (uheld ((6 * x0) + (nI i)).toNatClampNeg)]) (rest := []) S (c_X3_isMildew (uheld ((6 * x0) + (nI i)).toNatClampNeg)) gX3_isAmong_X3_isMildew rfl (by decide +kernel) ⟨⟨rfl, rfl⟩, ⟨Nat.le_of_ble_eq_true rfl, Nat.le_of_ble_eq_true rfl⟩, Nat.le_of_ble_eq_true rfl, Nat.le_of_ble_eq_true rfl⟩ hP hK hN [] [] rfl rfl (lv_nil hl) rfl (Nat.le_of_ble_eq_true rfl) dX3_isAmong_44 ?_
          refine lv_if_ne (tgt := 67) hx hb dX3_isAmong_47 (by decide) (fun c_6003 => ?_) (fun c_6003 => ?_)
          · skip
            refine lv_iconst (v := 0) hx hb dX3_isAmong_67 (by decide) ?_
            refine lv_istore (lv' := [(4, .int 0), (6, .int (uheld ((6 * x0) + (nI i)).toNatClampNeg)), (5, .int (nI i)), (0, .ref b0), (1, .int x0), (2, .int x1), (3, .int x2)]) hx hb dX3_isAmong_68 hl (by decide) rfl (fun ls hl => ?_)
            refine lv_iinc (v := nI (i + 1)) (lv' := [(5, .int (nI (i + 1))), (4, .int 0), (6, .int (uheld ((6 * x0) + (nI i)).toNatClampNeg)), (0, .ref b0), (1, .int x0), (2, .int x1), (3, .int x2)]) hx hb dX3_isAmong_70 hl (k := 2) rfl (nI_1 i) (by decide) rfl (fun ls hl => ?_)
            refine lv_goto (tgt := 6) hx hb dX3_isAmong_73 (by decide) ?_
            exact ih (i + 1) 0 (by omega) (by rw [← hv]; simp only [j_X3_isAmong_6, if_neg hge, if_pos hgl, if_pos c_6001, if_pos c_6002, if_neg c_6003]) ls (lv_sub hl [0, 1, 3, 4, 5, 6] rfl)
          · skip
            refine lv_iload_n hx hb dX3_isAmong_50 rfl (lv_at hl 6 rfl) ?_
            refine lv_if_lt (tgt := 63) hx hb dX3_isAmong_51 (by decide) (fun c_6004 => ?_) (fun c_6004 => ?_)
            · skip
              refine lv_iconst (v := 1) hx hb dX3_isAmong_63 (by decide) ?_
              refine lv_goto (tgt := 68) hx hb dX3_isAmong_64 (by decide) ?_
              refine lv_istore (lv' := [(4, .int 1), (6, .int (uheld ((6 * x0) + (nI i)).toNatClampNeg)), (5, .int (nI i)), (0, .ref b0), (1, .int x0), (2, .int x1), (3, .int x2)]) hx hb dX3_isAmong_68 hl (by decide) rfl (fun ls hl => ?_)
              refine lv_iinc (v := nI (i + 1)) (lv' := [(5, .int (nI (i + 1))), (4, .int 1), (6, .int (uheld ((6 * x0) + (nI i)).toNatClampNeg)), (0, .ref b0), (1, .int x0), (2, .int x1), (3, .int x2)]) hx hb dX3_isAmong_70 hl (k := 2) rfl (nI_1 i) (by decide) rfl (fun ls hl => ?_)
              refine lv_goto (tgt := 6) hx hb dX3_isAmong_73 (by decide) ?_
              exact ih (i + 1) 1 (by omega) (by rw [← hv]; simp only [j_X3_isAmong_6, if_neg hge, if_pos hgl, if_pos c_6001, if_pos c_6002, if_pos c_6003, if_pos c_6004]) ls (lv_sub hl [0, 1, 3, 4, 5, 6] rfl)
            · skip
              refine lv_iload hx hb dX3_isAmong_54 (lv_at hl 0 rfl) ?_
              refine jr_callS (As := [.int (uheld ((6 * x0) + (nI i)).toNatClampNeg)]) (rest := []) S (c_X3_provenance (uheld ((6 * x0) + (nI i)).toNatClampNeg)) gX3_isAmong_X3_provenance rfl (by decide +kernel) ⟨⟨rfl, rfl⟩, ⟨Nat.le_of_ble_eq_true rfl, Nat.le_of_ble_eq_true rfl⟩, Nat.le_of_ble_eq_true rfl, Nat.le_of_ble_eq_true rfl⟩ hP hK hN [] [] rfl rfl (lv_nil hl) rfl (Nat.le_of_ble_eq_true rfl) dX3_isAmong_56 ?_
              refine lv_iload_n hx hb dX3_isAmong_59 rfl (lv_at hl 6 rfl) ?_
              refine lv_icmp_ne (tgt := 67) hx hb dX3_isAmong_60 (by decide) (fun c_6005 => ?_) (fun c_6005 => ?_)
              · skip
                refine lv_iconst (v := 0) hx hb dX3_isAmong_67 (by decide) ?_
                refine lv_istore (lv' := [(4, .int 0), (6, .int (uheld ((6 * x0) + (nI i)).toNatClampNeg)), (5, .int (nI i)), (0, .ref b0), (1, .int x0), (2, .int x1), (3, .int x2)]) hx hb dX3_isAmong_68 hl (by decide) rfl (fun ls hl => ?_)
                refine lv_iinc (v := nI (i + 1)) (lv' := [(5, .int (nI (i + 1))), (4, .int 0), (6, .int (uheld ((6 * x0) + (nI i)).toNatClampNeg)), (0, .ref b0), (1, .int x0), (2, .int x1), (3, .int x2)]) hx hb dX3_isAmong_70 hl (k := 2) rfl (nI_1 i) (by decide) rfl (fun ls hl => ?_)
                refine lv_goto (tgt := 6) hx hb dX3_isAmong_73 (by decide) ?_
                exact ih (i + 1) 0 (by omega) (by rw [← hv]; simp only [j_X3_isAmong_6, if_neg hge, if_pos hgl, if_pos c_6001, if_pos c_6002, if_pos c_6003, if_neg c_6004, if_neg c_6005]) ls (lv_sub hl [0, 1, 3, 4, 5, 6] rfl)
              · skip
                refine lv_iconst (v := 1) hx hb dX3_isAmong_63 (by decide) ?_
                refine lv_goto (tgt := 68) hx hb dX3_isAmong_64 (by decide) ?_
                refine lv_istore (lv' := [(4, .int 1), (6, .int (uheld ((6 * x0) + (nI i)).toNatClampNeg)), (5, .int (nI i)), (0, .ref b0), (1, .int x0), (2, .int x1), (3, .int x2)]) hx hb dX3_isAmong_68 hl (by decide) rfl (fun ls hl => ?_)
                refine lv_iinc (v := nI (i + 1)) (lv' := [(5, .int (nI (i + 1))), (4, .int 1), (6, .int (uheld ((6 * x0) + (nI i)).toNatClampNeg)), (0, .ref b0), (1, .int x0), (2, .int x1), (3, .int x2)]) hx hb dX3_isAmong_70 hl (k := 2) rfl (nI_1 i) (by decide) rfl (fun ls hl => ?_)
                refine lv_goto (tgt := 6) hx hb dX3_isAmong_73 (by decide) ?_
                exact ih (i + 1) 1 (by omega) (by rw [← hv]; simp only [j_X3_isAmong_6, if_neg hge, if_pos hgl, if_pos c_6001, if_pos c_6002, if_pos c_6003, if_neg c_6004, if_pos c_6005]) ls (lv_sub hl [0, 1, 3, 4, 5, 6] rfl)
  refine lv_iconst (v := 0) hx hb dX3_isAmong_0 (by decide) ?_
  refine lv_istore (lv' := [(4, .int 0), (0, .ref b0), (1, .int x0), (2, .int x1), (3, .int x2)]) hx hb dX3_isAmong_1 hl (by decide) rfl (fun ls hl => ?_)
  refine lv_iconst (v := 0) hx hb dX3_isAmong_3 (by decide) ?_
  refine lv_istore (lv' := [(5, .int 0), (4, .int 0), (0, .ref b0), (1, .int x0), (2, .int x1), (3, .int x2)]) hx hb dX3_isAmong_4 hl (by decide) rfl (fun ls hl => ?_)
  exact loop6 6 0 0 rfl (by simp only [j_X3_isAmong]) ls (lv_sub (l' := [(5, .int (nI 0)), (4, .int 0), (0, .ref b0), (1, .int x0), (2, .int x1), (3, .int x2)]) hl [0, 1, 2, 3, 4, 5] rfl)

