/-! THE MODEL: methods that read (laid by wip/whole/rows.py) -/
abbrev rX3_isCard : Room := { frames := 0, cells := 0, slots := 0, locals := 0 }
def j_X3_isCard (x0 : Int32) : Int32 := (if x0 < 0 then 0 else (if 42 ≤ x0 then 0 else 1))
set_option maxRecDepth 100000 in
set_option maxHeartbeats 4000000 in
theorem c_X3_isCard {l : Launch} {D : va_G} (x0 : Int32) : jR l yX3_isCard wsX3_isCard rX3_isCard D [.int x0] [] [] (.int (j_X3_isCard x0)) := by
  refine jR_of (cc := cX3_isCard) (maxL := 1) (ret := (some .boolean)) (by decide) rfl (Nat.le_of_ble_eq_true rfl) ?_
  intro p e s m below meth c ls S hr hlocks hP hK hN hl
  obtain ⟨hx, hb, hml, hown, hts⟩ := id S
  have hl : lv_has ls 1 [(0, .int x0)] := hl
  refine lv_iload_n hx hb dX3_isCard_0 rfl (lv_at hl 0 rfl) ?_
  refine lv_if_lt (tgt := 14) hx hb dX3_isCard_1 (by decide) (fun c_1 => ?_) (fun c_1 => ?_)
  · skip
    refine lv_iconst (v := 0) hx hb dX3_isCard_14 (by decide) ?_
    exact jr_zret hx hb hr hlocks dX3_isCard_15 rfl (by simp only [j_X3_isCard, if_pos c_1])
  · skip
    refine lv_iload_n hx hb dX3_isCard_4 rfl (lv_at hl 0 rfl) ?_
    refine lv_bipush (v := 42) hx hb dX3_isCard_5 (by decide) ?_
    refine lv_icmp_ge (tgt := 14) hx hb dX3_isCard_7 (by decide) (fun c_2 => ?_) (fun c_2 => ?_)
    · skip
      refine lv_iconst (v := 0) hx hb dX3_isCard_14 (by decide) ?_
      exact jr_zret hx hb hr hlocks dX3_isCard_15 rfl (by simp only [j_X3_isCard, if_neg c_1, if_pos c_2])
    · skip
      refine lv_iconst (v := 1) hx hb dX3_isCard_10 (by decide) ?_
      refine lv_goto (tgt := 15) hx hb dX3_isCard_11 (by decide) ?_
      exact jr_zret hx hb hr hlocks dX3_isCard_15 rfl (by simp only [j_X3_isCard, if_neg c_1, if_neg c_2])

abbrev rX3_isArchivist : Room := { frames := 0, cells := 0, slots := 0, locals := 0 }
def j_X3_isArchivist (x0 : Int32) : Int32 := (if x0 = 0 then 1 else (if x0 = 1 then 1 else 0))
set_option maxRecDepth 100000 in
set_option maxHeartbeats 4000000 in
theorem c_X3_isArchivist {l : Launch} {D : va_G} (x0 : Int32) : jR l yX3_isArchivist wsX3_isArchivist rX3_isArchivist D [.int x0] [] [] (.int (j_X3_isArchivist x0)) := by
  refine jR_of (cc := cX3_isArchivist) (maxL := 1) (ret := (some .boolean)) (by decide) rfl (Nat.le_of_ble_eq_true rfl) ?_
  intro p e s m below meth c ls S hr hlocks hP hK hN hl
  obtain ⟨hx, hb, hml, hown, hts⟩ := id S
  have hl : lv_has ls 1 [(0, .int x0)] := hl
  refine lv_iload_n hx hb dX3_isArchivist_0 rfl (lv_at hl 0 rfl) ?_
  refine lv_if_eq (tgt := 9) hx hb dX3_isArchivist_1 (by decide) (fun c_1 => ?_) (fun c_1 => ?_)
  · skip
    refine lv_iconst (v := 1) hx hb dX3_isArchivist_9 (by decide) ?_
    refine lv_goto (tgt := 14) hx hb dX3_isArchivist_10 (by decide) ?_
    exact jr_zret hx hb hr hlocks dX3_isArchivist_14 rfl (by simp only [j_X3_isArchivist, if_pos c_1])
  · skip
    refine lv_iload_n hx hb dX3_isArchivist_4 rfl (lv_at hl 0 rfl) ?_
    refine lv_iconst (v := 1) hx hb dX3_isArchivist_5 (by decide) ?_
    refine lv_icmp_ne (tgt := 13) hx hb dX3_isArchivist_6 (by decide) (fun c_2 => ?_) (fun c_2 => ?_)
    · skip
      refine lv_iconst (v := 0) hx hb dX3_isArchivist_13 (by decide) ?_
      exact jr_zret hx hb hr hlocks dX3_isArchivist_14 rfl (by simp only [j_X3_isArchivist, if_neg c_1, if_neg c_2])
    · skip
      refine lv_iconst (v := 1) hx hb dX3_isArchivist_9 (by decide) ?_
      refine lv_goto (tgt := 14) hx hb dX3_isArchivist_10 (by decide) ?_
      exact jr_zret hx hb hr hlocks dX3_isArchivist_14 rfl (by simp only [j_X3_isArchivist, if_neg c_1, if_pos c_2])

abbrev rX3_isMildew : Room := { frames := 0, cells := 0, slots := 0, locals := 0 }
def j_X3_isMildew (x0 : Int32) : Int32 := (if x0 < 40 then 0 else 1)
set_option maxRecDepth 100000 in
set_option maxHeartbeats 4000000 in
theorem c_X3_isMildew {l : Launch} {D : va_G} (x0 : Int32) : jR l yX3_isMildew wsX3_isMildew rX3_isMildew D [.int x0] [] [] (.int (j_X3_isMildew x0)) := by
  refine jR_of (cc := cX3_isMildew) (maxL := 1) (ret := (some .boolean)) (by decide) rfl (Nat.le_of_ble_eq_true rfl) ?_
  intro p e s m below meth c ls S hr hlocks hP hK hN hl
  obtain ⟨hx, hb, hml, hown, hts⟩ := id S
  have hl : lv_has ls 1 [(0, .int x0)] := hl
  refine lv_iload_n hx hb dX3_isMildew_0 rfl (lv_at hl 0 rfl) ?_
  refine lv_bipush (v := 40) hx hb dX3_isMildew_1 (by decide) ?_
  refine lv_icmp_lt (tgt := 10) hx hb dX3_isMildew_3 (by decide) (fun c_1 => ?_) (fun c_1 => ?_)
  · skip
    refine lv_iconst (v := 0) hx hb dX3_isMildew_10 (by decide) ?_
    exact jr_zret hx hb hr hlocks dX3_isMildew_11 rfl (by simp only [j_X3_isMildew, if_pos c_1])
  · skip
    refine lv_iconst (v := 1) hx hb dX3_isMildew_6 (by decide) ?_
    refine lv_goto (tgt := 11) hx hb dX3_isMildew_7 (by decide) ?_
    exact jr_zret hx hb hr hlocks dX3_isMildew_11 rfl (by simp only [j_X3_isMildew, if_neg c_1])

abbrev rX3_provenance : Room := { frames := 0, cells := 0, slots := 0, locals := 0 }
def j_X3_provenance (x0 : Int32) : Int32 := x0 / 10
set_option maxRecDepth 100000 in
set_option maxHeartbeats 4000000 in
theorem c_X3_provenance {l : Launch} {D : va_G} (x0 : Int32) : jR l yX3_provenance wsX3_provenance rX3_provenance D [.int x0] [] [] (.int (j_X3_provenance x0)) := by
  refine jR_of (cc := cX3_provenance) (maxL := 1) (ret := (some .int)) (by decide) rfl (Nat.le_of_ble_eq_true rfl) ?_
  intro p e s m below meth c ls S hr hlocks hP hK hN hl
  obtain ⟨hx, hb, hml, hown, hts⟩ := id S
  have hl : lv_has ls 1 [(0, .int x0)] := hl
  refine lv_iload_n hx hb dX3_provenance_0 rfl (lv_at hl 0 rfl) ?_
  refine lv_bipush (v := 10) hx hb dX3_provenance_1 (by decide) ?_
  refine lv_idiv hx hb dX3_provenance_3 (by decide) ?_
  exact jr_iret hx hb hr hlocks dX3_provenance_4 (by simp only [j_X3_provenance])

abbrev rX3_worth : Room := { frames := 1, cells := 0, slots := 0, locals := 20 }
def j_X3_worth (x0 : Int32) : Int32 := (if j_X3_isMildew x0 = 0 then 10 - (x0 - x0 / 10 * 10) else (-5))
set_option maxRecDepth 100000 in
set_option maxHeartbeats 4000000 in
theorem c_X3_worth {l : Launch} {D : va_G} (x0 : Int32) : jR l yX3_worth wsX3_worth rX3_worth D [.int x0] [] [] (.int (j_X3_worth x0)) := by
  refine jR_of (cc := cX3_worth) (maxL := 1) (ret := (some .int)) (by decide) rfl (Nat.le_of_ble_eq_true rfl) ?_
  intro p e s m below meth c ls S hr hlocks hP hK hN hl
  obtain ⟨hx, hb, hml, hown, hts⟩ := id S
  have hl : lv_has ls 1 [(0, .int x0)] := hl
  refine lv_iload_n hx hb dX3_worth_0 rfl (lv_at hl 0 rfl) ?_
  refine jr_callS (n := 1) (As := [.int x0]) (rest := []) S (c_X3_isMildew x0) gX3_worth_X3_isMildew rfl (by decide +kernel) rfl ⟨⟨rfl, rfl⟩, ⟨Nat.le_of_ble_eq_true rfl, Nat.le_of_ble_eq_true rfl⟩, Nat.le_of_ble_eq_true rfl, Nat.le_of_ble_eq_true rfl⟩ hP hK hN [] [] rfl rfl (lv_nil hl) rfl (Nat.le_of_ble_eq_true rfl) dX3_worth_1 ?_
  refine lv_if_eq (tgt := 12) hx hb dX3_worth_4 (by decide) (fun c_1 => ?_) (fun c_1 => ?_)
  · skip
    refine lv_bipush (v := 10) hx hb dX3_worth_12 (by decide) ?_
    refine lv_iload_n hx hb dX3_worth_14 rfl (lv_at hl 0 rfl) ?_
    refine lv_bipush (v := 10) hx hb dX3_worth_15 (by decide) ?_
    refine lv_irem hx hb dX3_worth_17 (by decide) ?_
    refine lv_isub hx hb dX3_worth_18 ?_
    exact jr_iret hx hb hr hlocks dX3_worth_19 (by simp only [j_X3_worth, if_pos c_1])
  · skip
    refine lv_bipush (v := (-5)) hx hb dX3_worth_7 (by decide) ?_
    refine lv_goto (tgt := 19) hx hb dX3_worth_9 (by decide) ?_
    exact jr_iret hx hb hr hlocks dX3_worth_19 (by simp only [j_X3_worth, if_neg c_1])

abbrev rX3_worthTo : Room := { frames := 2, cells := 0, slots := 0, locals := 40 }
def j_X3_worthTo (x0 : Int32) (x1 : Int32) : Int32 := (if x1 = 0 then j_X3_worth x0 else (if j_X3_isMildew x0 = 0 then j_X3_worth x0 else 0))
set_option maxRecDepth 100000 in
set_option maxHeartbeats 4000000 in
theorem c_X3_worthTo {l : Launch} {D : va_G} (x0 : Int32) (x1 : Int32) : jR l yX3_worthTo wsX3_worthTo rX3_worthTo D [.int x0, .int x1] [] [] (.int (j_X3_worthTo x0 x1)) := by
  refine jR_of (cc := cX3_worthTo) (maxL := 2) (ret := (some .int)) (by decide) rfl (Nat.le_of_ble_eq_true rfl) ?_
  intro p e s m below meth c ls S hr hlocks hP hK hN hl
  obtain ⟨hx, hb, hml, hown, hts⟩ := id S
  have hl : lv_has ls 2 [(0, .int x0), (1, .int x1)] := hl
  refine lv_iload_n hx hb dX3_worthTo_0 rfl (lv_at hl 1 rfl) ?_
  refine lv_if_eq (tgt := 15) hx hb dX3_worthTo_1 (by decide) (fun c_1 => ?_) (fun c_1 => ?_)
  · skip
    refine lv_iload_n hx hb dX3_worthTo_15 rfl (lv_at hl 0 rfl) ?_
    refine jr_callS (n := 1) (As := [.int x0]) (rest := []) S (c_X3_worth x0) gX3_worthTo_X3_worth rfl (by decide +kernel) rfl ⟨⟨rfl, rfl⟩, ⟨Nat.le_of_ble_eq_true rfl, Nat.le_of_ble_eq_true rfl⟩, Nat.le_of_ble_eq_true rfl, Nat.le_of_ble_eq_true rfl⟩ hP hK hN [] [] rfl rfl (lv_nil hl) rfl (Nat.le_of_ble_eq_true rfl) dX3_worthTo_16 ?_
    exact jr_iret hx hb hr hlocks dX3_worthTo_19 (by simp only [j_X3_worthTo, if_pos c_1])
  · skip
    refine lv_iload_n hx hb dX3_worthTo_4 rfl (lv_at hl 0 rfl) ?_
    refine jr_callS (n := 1) (As := [.int x0]) (rest := []) S (c_X3_isMildew x0) gX3_worthTo_X3_isMildew rfl (by decide +kernel) rfl ⟨⟨rfl, rfl⟩, ⟨Nat.le_of_ble_eq_true rfl, Nat.le_of_ble_eq_true rfl⟩, Nat.le_of_ble_eq_true rfl, Nat.le_of_ble_eq_true rfl⟩ hP hK hN [] [] rfl rfl (lv_nil hl) rfl (Nat.le_of_ble_eq_true rfl) dX3_worthTo_5 ?_
    refine lv_if_eq (tgt := 15) hx hb dX3_worthTo_8 (by decide) (fun c_2 => ?_) (fun c_2 => ?_)
    · skip
      refine lv_iload_n hx hb dX3_worthTo_15 rfl (lv_at hl 0 rfl) ?_
      refine jr_callS (n := 1) (As := [.int x0]) (rest := []) S (c_X3_worth x0) gX3_worthTo_X3_worth rfl (by decide +kernel) rfl ⟨⟨rfl, rfl⟩, ⟨Nat.le_of_ble_eq_true rfl, Nat.le_of_ble_eq_true rfl⟩, Nat.le_of_ble_eq_true rfl, Nat.le_of_ble_eq_true rfl⟩ hP hK hN [] [] rfl rfl (lv_nil hl) rfl (Nat.le_of_ble_eq_true rfl) dX3_worthTo_16 ?_
      exact jr_iret hx hb hr hlocks dX3_worthTo_19 (by simp only [j_X3_worthTo, if_neg c_1, if_pos c_2])
    · skip
      refine lv_iconst (v := 0) hx hb dX3_worthTo_11 (by decide) ?_
      refine lv_goto (tgt := 19) hx hb dX3_worthTo_12 (by decide) ?_
      exact jr_iret hx hb hr hlocks dX3_worthTo_19 (by simp only [j_X3_worthTo, if_neg c_1, if_neg c_2])

abbrev rX3_thrown : Room := { frames := 0, cells := 0, slots := 0, locals := 0 }
def j_X3_thrown (uthr : Int32) : Int32 := uthr
theorem inX3_thrown_X3 : ∀ w ∈ u_ws RX3 TX3 15, w ∈ wsX3_thrown := by decide +kernel
set_option maxRecDepth 100000 in
set_option maxHeartbeats 4000000 in
theorem c_X3_thrown {l : Launch} {D : va_G} (b0 : Nat) (bP : Nat) (bR : Nat) (bS : Nat) (bT : Nat) (bG : Nat) (bW : Nat) (bH : Nat) (bO : Nat) (cP : ClassId) (cR : ClassId) (cS : ClassId) (cT : ClassId) (cG : ClassId) (cW : ClassId) (cH : ClassId) (cO : ClassId) (uplace : Nat → Int32) (urow : Nat → Int32) (upts : Nat → Int32) (utks : Nat → Int32) (uglv : Nat → Int32) (uwin : Nat → Int32) (uheld : Nat → Int32) (utab : Nat → Int32) (udrawn : Int32) (udealt : Int32) (uon : Int32) (uturn : Int32) (uled : Int32) (utr : Int32) (uthr : Int32) : jR l yX3_thrown wsX3_thrown rX3_thrown D [.ref b0] (jM b0 bP bR bS bT bG bW bH bO cP cR cS cT cG cW cH cO uplace urow upts utks uglv uwin uheld utab udrawn udealt uon uturn uled utr uthr) [(cP, .int), (cR, .int), (cS, .int), (cT, .int), (cG, .int), (cW, .int), (cH, .int), (cO, .int)] (.int (j_X3_thrown uthr)) := by
  refine jR_of (cc := cX3_thrown) (maxL := 1) (ret := (some .int)) (by decide) rfl (Nat.le_of_ble_eq_true rfl) ?_
  intro p e s m below meth c ls S hr hlocks hP hK hN hl
  obtain ⟨hx, hb, hml, hown, hts⟩ := id S
  have hl : lv_has ls 1 [(0, .ref b0)] := hl
  refine lv_aload_n hx hb dX3_thrown_0 rfl (lv_at hl 0 rfl) ?_
  refine va_get (D := D) (ci := 3) (v := .int uthr) (C := RX3) (T := TX3) (N := 15) hx hb hts inX3_thrown_X3 hown hK hP 0 rfl rfl 12 (by decide) (hts (.fieldLink RX3 41 "ArchivistTricksModel" "thrown" "I") (by decide +kernel)) (fun _ h9 => h9) rfl dX3_thrown_1 ?_
  exact jr_iret hx hb hr hlocks dX3_thrown_4 (by simp only [j_X3_thrown])

abbrev rX3_isTrump : Room := { frames := 1, cells := 0, slots := 0, locals := 20 }
def j_X3_isTrump (utr : Int32) (x0 : Int32) : Int32 := (if j_X3_isMildew x0 = 0 then (if j_X3_provenance x0 = utr then 1 else 0) else 0)
theorem inX3_isTrump_X3 : ∀ w ∈ u_ws RX3 TX3 15, w ∈ wsX3_isTrump := by decide +kernel
set_option maxRecDepth 100000 in
set_option maxHeartbeats 4000000 in
theorem c_X3_isTrump {l : Launch} {D : va_G} (b0 : Nat) (bP : Nat) (bR : Nat) (bS : Nat) (bT : Nat) (bG : Nat) (bW : Nat) (bH : Nat) (bO : Nat) (cP : ClassId) (cR : ClassId) (cS : ClassId) (cT : ClassId) (cG : ClassId) (cW : ClassId) (cH : ClassId) (cO : ClassId) (uplace : Nat → Int32) (urow : Nat → Int32) (upts : Nat → Int32) (utks : Nat → Int32) (uglv : Nat → Int32) (uwin : Nat → Int32) (uheld : Nat → Int32) (utab : Nat → Int32) (udrawn : Int32) (udealt : Int32) (uon : Int32) (uturn : Int32) (uled : Int32) (utr : Int32) (uthr : Int32) (x0 : Int32) : jR l yX3_isTrump wsX3_isTrump rX3_isTrump D [.ref b0, .int x0] (jM b0 bP bR bS bT bG bW bH bO cP cR cS cT cG cW cH cO uplace urow upts utks uglv uwin uheld utab udrawn udealt uon uturn uled utr uthr) [(cP, .int), (cR, .int), (cS, .int), (cT, .int), (cG, .int), (cW, .int), (cH, .int), (cO, .int)] (.int (j_X3_isTrump utr x0)) := by
  refine jR_of (cc := cX3_isTrump) (maxL := 2) (ret := (some .boolean)) (by decide) rfl (Nat.le_of_ble_eq_true rfl) ?_
  intro p e s m below meth c ls S hr hlocks hP hK hN hl
  obtain ⟨hx, hb, hml, hown, hts⟩ := id S
  have hl : lv_has ls 2 [(0, .ref b0), (1, .int x0)] := hl
  refine lv_iload_n hx hb dX3_isTrump_0 rfl (lv_at hl 1 rfl) ?_
  refine jr_callS (n := 1) (As := [.int x0]) (rest := []) S (c_X3_isMildew x0) gX3_isTrump_X3_isMildew rfl (by decide +kernel) rfl ⟨⟨rfl, rfl⟩, ⟨Nat.le_of_ble_eq_true rfl, Nat.le_of_ble_eq_true rfl⟩, Nat.le_of_ble_eq_true rfl, Nat.le_of_ble_eq_true rfl⟩ hP hK hN [] [] rfl rfl (lv_nil hl) rfl (Nat.le_of_ble_eq_true rfl) dX3_isTrump_1 ?_
  refine lv_if_ne (tgt := 22) hx hb dX3_isTrump_4 (by decide) (fun c_1 => ?_) (fun c_1 => ?_)
  · skip
    refine lv_iconst (v := 0) hx hb dX3_isTrump_22 (by decide) ?_
    exact jr_zret hx hb hr hlocks dX3_isTrump_23 rfl (by simp only [j_X3_isTrump, if_neg c_1])
  · skip
    refine lv_iload_n hx hb dX3_isTrump_7 rfl (lv_at hl 1 rfl) ?_
    refine jr_callS (n := 1) (As := [.int x0]) (rest := []) S (c_X3_provenance x0) gX3_isTrump_X3_provenance rfl (by decide +kernel) rfl ⟨⟨rfl, rfl⟩, ⟨Nat.le_of_ble_eq_true rfl, Nat.le_of_ble_eq_true rfl⟩, Nat.le_of_ble_eq_true rfl, Nat.le_of_ble_eq_true rfl⟩ hP hK hN [] [] rfl rfl (lv_nil hl) rfl (Nat.le_of_ble_eq_true rfl) dX3_isTrump_8 ?_
    refine lv_aload_n hx hb dX3_isTrump_11 rfl (lv_at hl 0 rfl) ?_
    refine va_get (D := D) (ci := 3) (v := .int utr) (C := RX3) (T := TX3) (N := 15) hx hb hts inX3_isTrump_X3 hown hK hP 0 rfl rfl 7 (by decide) (hts (.fieldLink RX3 20 "ArchivistTricksModel" "trumps" "I") (by decide +kernel)) (fun _ h9 => h9) rfl dX3_isTrump_12 ?_
    refine lv_icmp_ne (tgt := 22) hx hb dX3_isTrump_15 (by decide) (fun c_2 => ?_) (fun c_2 => ?_)
    · skip
      refine lv_iconst (v := 0) hx hb dX3_isTrump_22 (by decide) ?_
      exact jr_zret hx hb hr hlocks dX3_isTrump_23 rfl (by simp only [j_X3_isTrump, if_pos c_1, if_neg c_2])
    · skip
      refine lv_iconst (v := 1) hx hb dX3_isTrump_18 (by decide) ?_
      refine lv_goto (tgt := 23) hx hb dX3_isTrump_19 (by decide) ?_
      exact jr_zret hx hb hr hlocks dX3_isTrump_23 rfl (by simp only [j_X3_isTrump, if_pos c_1, if_pos c_2])

abbrev rX3_takes : Room := { frames := 2, cells := 0, slots := 0, locals := 41 }
def j_X3_takes (utr : Int32) (x0 : Int32) (x1 : Int32) : Int32 := (if j_X3_isMildew x1 = 0 then (if j_X3_isMildew x0 = 0 then (if j_X3_provenance x1 = j_X3_provenance x0 then (if x1 - x1 / 10 * 10 ≤ x0 - x0 / 10 * 10 then 0 else 1) else (if j_X3_isTrump utr x0 = 0 then 0 else (if j_X3_isTrump utr x1 = 0 then 1 else 0))) else 0) else (if j_X3_isMildew x0 = 0 then 1 else 0))
set_option maxRecDepth 100000 in
set_option maxHeartbeats 4000000 in
theorem c_X3_takes {l : Launch} {D : va_G} (b0 : Nat) (bP : Nat) (bR : Nat) (bS : Nat) (bT : Nat) (bG : Nat) (bW : Nat) (bH : Nat) (bO : Nat) (cP : ClassId) (cR : ClassId) (cS : ClassId) (cT : ClassId) (cG : ClassId) (cW : ClassId) (cH : ClassId) (cO : ClassId) (uplace : Nat → Int32) (urow : Nat → Int32) (upts : Nat → Int32) (utks : Nat → Int32) (uglv : Nat → Int32) (uwin : Nat → Int32) (uheld : Nat → Int32) (utab : Nat → Int32) (udrawn : Int32) (udealt : Int32) (uon : Int32) (uturn : Int32) (uled : Int32) (utr : Int32) (uthr : Int32) (x0 : Int32) (x1 : Int32) : jR l yX3_takes wsX3_takes rX3_takes D [.ref b0, .int x0, .int x1] (jM b0 bP bR bS bT bG bW bH bO cP cR cS cT cG cW cH cO uplace urow upts utks uglv uwin uheld utab udrawn udealt uon uturn uled utr uthr) [(cP, .int), (cR, .int), (cS, .int), (cT, .int), (cG, .int), (cW, .int), (cH, .int), (cO, .int)] (.int (j_X3_takes utr x0 x1)) := by
  refine jR_of (cc := cX3_takes) (maxL := 3) (ret := (some .boolean)) (by decide) rfl (Nat.le_of_ble_eq_true rfl) ?_
  intro p e s m below meth c ls S hr hlocks hP hK hN hl
  obtain ⟨hx, hb, hml, hown, hts⟩ := id S
  have hl : lv_has ls 3 [(0, .ref b0), (1, .int x0), (2, .int x1)] := hl
  refine lv_iload_n hx hb dX3_takes_0 rfl (lv_at hl 2 rfl) ?_
  refine jr_callS (n := 1) (As := [.int x1]) (rest := []) S (c_X3_isMildew x1) gX3_takes_X3_isMildew rfl (by decide +kernel) rfl ⟨⟨rfl, rfl⟩, ⟨Nat.le_of_ble_eq_true rfl, Nat.le_of_ble_eq_true rfl⟩, Nat.le_of_ble_eq_true rfl, Nat.le_of_ble_eq_true rfl⟩ hP hK hN [] [] rfl rfl (lv_nil hl) rfl (Nat.le_of_ble_eq_true rfl) dX3_takes_1 ?_
  refine lv_if_ne (tgt := 14) hx hb dX3_takes_4 (by decide) (fun c_1 => ?_) (fun c_1 => ?_)
  · skip
    refine lv_iload_n hx hb dX3_takes_14 rfl (lv_at hl 2 rfl) ?_
    refine jr_callS (n := 1) (As := [.int x1]) (rest := []) S (c_X3_isMildew x1) gX3_takes_X3_isMildew rfl (by decide +kernel) rfl ⟨⟨rfl, rfl⟩, ⟨Nat.le_of_ble_eq_true rfl, Nat.le_of_ble_eq_true rfl⟩, Nat.le_of_ble_eq_true rfl, Nat.le_of_ble_eq_true rfl⟩ hP hK hN [] [] rfl rfl (lv_nil hl) rfl (Nat.le_of_ble_eq_true rfl) dX3_takes_15 ?_
    refine lv_if_eq (tgt := 32) hx hb dX3_takes_18 (by decide) (fun c_ => absurd c_ c_1) (fun _ => ?_)
    refine lv_iload_n hx hb dX3_takes_21 rfl (lv_at hl 1 rfl) ?_
    refine jr_callS (n := 1) (As := [.int x0]) (rest := []) S (c_X3_isMildew x0) gX3_takes_X3_isMildew rfl (by decide +kernel) rfl ⟨⟨rfl, rfl⟩, ⟨Nat.le_of_ble_eq_true rfl, Nat.le_of_ble_eq_true rfl⟩, Nat.le_of_ble_eq_true rfl, Nat.le_of_ble_eq_true rfl⟩ hP hK hN [] [] rfl rfl (lv_nil hl) rfl (Nat.le_of_ble_eq_true rfl) dX3_takes_22 ?_
    refine lv_if_ne (tgt := 32) hx hb dX3_takes_25 (by decide) (fun c_2 => ?_) (fun c_2 => ?_)
    · skip
      refine lv_iconst (v := 0) hx hb dX3_takes_32 (by decide) ?_
      exact jr_zret hx hb hr hlocks dX3_takes_33 rfl (by simp only [j_X3_takes, if_neg c_1, if_neg c_2])
    · skip
      refine lv_iconst (v := 1) hx hb dX3_takes_28 (by decide) ?_
      refine lv_goto (tgt := 33) hx hb dX3_takes_29 (by decide) ?_
      exact jr_zret hx hb hr hlocks dX3_takes_33 rfl (by simp only [j_X3_takes, if_neg c_1, if_pos c_2])
  · skip
    refine lv_iload_n hx hb dX3_takes_7 rfl (lv_at hl 1 rfl) ?_
    refine jr_callS (n := 1) (As := [.int x0]) (rest := []) S (c_X3_isMildew x0) gX3_takes_X3_isMildew rfl (by decide +kernel) rfl ⟨⟨rfl, rfl⟩, ⟨Nat.le_of_ble_eq_true rfl, Nat.le_of_ble_eq_true rfl⟩, Nat.le_of_ble_eq_true rfl, Nat.le_of_ble_eq_true rfl⟩ hP hK hN [] [] rfl rfl (lv_nil hl) rfl (Nat.le_of_ble_eq_true rfl) dX3_takes_8 ?_
    refine lv_if_eq (tgt := 34) hx hb dX3_takes_11 (by decide) (fun c_3 => ?_) (fun c_3 => ?_)
    · skip
      refine lv_iload_n hx hb dX3_takes_34 rfl (lv_at hl 2 rfl) ?_
      refine jr_callS (n := 1) (As := [.int x1]) (rest := []) S (c_X3_provenance x1) gX3_takes_X3_provenance rfl (by decide +kernel) rfl ⟨⟨rfl, rfl⟩, ⟨Nat.le_of_ble_eq_true rfl, Nat.le_of_ble_eq_true rfl⟩, Nat.le_of_ble_eq_true rfl, Nat.le_of_ble_eq_true rfl⟩ hP hK hN [] [] rfl rfl (lv_nil hl) rfl (Nat.le_of_ble_eq_true rfl) dX3_takes_35 ?_
      refine lv_iload_n hx hb dX3_takes_38 rfl (lv_at hl 1 rfl) ?_
      refine jr_callS (n := 1) (As := [.int x0]) (rest := [.int (j_X3_provenance x1)]) S (c_X3_provenance x0) gX3_takes_X3_provenance rfl (by decide +kernel) rfl ⟨⟨rfl, rfl⟩, ⟨Nat.le_of_ble_eq_true rfl, Nat.le_of_ble_eq_true rfl⟩, Nat.le_of_ble_eq_true rfl, Nat.le_of_ble_eq_true rfl⟩ hP hK hN [] [] rfl rfl (lv_nil hl) rfl (Nat.le_of_ble_eq_true rfl) dX3_takes_39 ?_
      refine lv_icmp_ne (tgt := 62) hx hb dX3_takes_42 (by decide) (fun c_4 => ?_) (fun c_4 => ?_)
      · skip
        refine lv_aload_n hx hb dX3_takes_62 rfl (lv_at hl 0 rfl) ?_
        refine lv_iload_n hx hb dX3_takes_63 rfl (lv_at hl 1 rfl) ?_
        refine jr_callV (n := 1) (C := RX3) (As := [.int x0]) (rest := []) S (c_X3_isTrump b0 bP bR bS bT bG bW bH bO cP cR cS cT cG cW cH cO uplace urow upts utks uglv uwin uheld utab udrawn udealt uon uturn uled utr uthr x0) gX3_takes_X3_isTrump rfl (by decide +kernel) rfl ⟨⟨rfl, rfl⟩, ⟨Nat.le_of_ble_eq_true rfl, Nat.le_of_ble_eq_true rfl⟩, Nat.le_of_ble_eq_true rfl, Nat.le_of_ble_eq_true rfl⟩ hP hK hN [0, 1, 2, 3, 4, 5, 6, 7, 8] [0, 1, 2, 3, 4, 5, 6, 7] rfl rfl 0 3 rfl rfl rfl (lv_nil hl) rfl (Nat.le_of_ble_eq_true rfl) dX3_takes_64 ?_
        refine lv_if_eq (tgt := 82) hx hb dX3_takes_67 (by decide) (fun c_5 => ?_) (fun c_5 => ?_)
        · skip
          refine lv_iconst (v := 0) hx hb dX3_takes_82 (by decide) ?_
          exact jr_zret hx hb hr hlocks dX3_takes_83 rfl (by simp only [j_X3_takes, if_pos c_1, if_pos c_3, if_neg c_4, if_pos c_5])
        · skip
          refine lv_aload_n hx hb dX3_takes_70 rfl (lv_at hl 0 rfl) ?_
          refine lv_iload_n hx hb dX3_takes_71 rfl (lv_at hl 2 rfl) ?_
          refine jr_callV (n := 1) (C := RX3) (As := [.int x1]) (rest := []) S (c_X3_isTrump b0 bP bR bS bT bG bW bH bO cP cR cS cT cG cW cH cO uplace urow upts utks uglv uwin uheld utab udrawn udealt uon uturn uled utr uthr x1) gX3_takes_X3_isTrump rfl (by decide +kernel) rfl ⟨⟨rfl, rfl⟩, ⟨Nat.le_of_ble_eq_true rfl, Nat.le_of_ble_eq_true rfl⟩, Nat.le_of_ble_eq_true rfl, Nat.le_of_ble_eq_true rfl⟩ hP hK hN [0, 1, 2, 3, 4, 5, 6, 7, 8] [0, 1, 2, 3, 4, 5, 6, 7] rfl rfl 0 3 rfl rfl rfl (lv_nil hl) rfl (Nat.le_of_ble_eq_true rfl) dX3_takes_72 ?_
          refine lv_if_ne (tgt := 82) hx hb dX3_takes_75 (by decide) (fun c_6 => ?_) (fun c_6 => ?_)
          · skip
            refine lv_iconst (v := 0) hx hb dX3_takes_82 (by decide) ?_
            exact jr_zret hx hb hr hlocks dX3_takes_83 rfl (by simp only [j_X3_takes, if_pos c_1, if_pos c_3, if_neg c_4, if_neg c_5, if_neg c_6])
          · skip
            refine lv_iconst (v := 1) hx hb dX3_takes_78 (by decide) ?_
            refine lv_goto (tgt := 83) hx hb dX3_takes_79 (by decide) ?_
            exact jr_zret hx hb hr hlocks dX3_takes_83 rfl (by simp only [j_X3_takes, if_pos c_1, if_pos c_3, if_neg c_4, if_neg c_5, if_pos c_6])
      · skip
        refine lv_iload_n hx hb dX3_takes_45 rfl (lv_at hl 1 rfl) ?_
        refine lv_bipush (v := 10) hx hb dX3_takes_46 (by decide) ?_
        refine lv_irem hx hb dX3_takes_48 (by decide) ?_
        refine lv_iload_n hx hb dX3_takes_49 rfl (lv_at hl 2 rfl) ?_
        refine lv_bipush (v := 10) hx hb dX3_takes_50 (by decide) ?_
        refine lv_irem hx hb dX3_takes_52 (by decide) ?_
        refine lv_icmp_ge (tgt := 60) hx hb dX3_takes_53 (by decide) (fun c_7 => ?_) (fun c_7 => ?_)
        · skip
          refine lv_iconst (v := 0) hx hb dX3_takes_60 (by decide) ?_
          exact jr_zret hx hb hr hlocks dX3_takes_61 rfl (by simp only [j_X3_takes, if_pos c_1, if_pos c_3, if_pos c_4, if_pos c_7])
        · skip
          refine lv_iconst (v := 1) hx hb dX3_takes_56 (by decide) ?_
          refine lv_goto (tgt := 61) hx hb dX3_takes_57 (by decide) ?_
          exact jr_zret hx hb hr hlocks dX3_takes_61 rfl (by simp only [j_X3_takes, if_pos c_1, if_pos c_3, if_pos c_4, if_neg c_7])
    · skip
      refine lv_iload_n hx hb dX3_takes_14 rfl (lv_at hl 2 rfl) ?_
      refine jr_callS (n := 1) (As := [.int x1]) (rest := []) S (c_X3_isMildew x1) gX3_takes_X3_isMildew rfl (by decide +kernel) rfl ⟨⟨rfl, rfl⟩, ⟨Nat.le_of_ble_eq_true rfl, Nat.le_of_ble_eq_true rfl⟩, Nat.le_of_ble_eq_true rfl, Nat.le_of_ble_eq_true rfl⟩ hP hK hN [] [] rfl rfl (lv_nil hl) rfl (Nat.le_of_ble_eq_true rfl) dX3_takes_15 ?_
      refine lv_if_eq (tgt := 32) hx hb dX3_takes_18 (by decide) (fun _ => ?_) (fun c_ => absurd c_1 c_)
      refine lv_iconst (v := 0) hx hb dX3_takes_32 (by decide) ?_
      exact jr_zret hx hb hr hlocks dX3_takes_33 rfl (by simp only [j_X3_takes, if_pos c_1, if_neg c_3])

abbrev rX3_inPile : Room := { frames := 0, cells := 0, slots := 0, locals := 0 }
def j_X3_inPile (udrawn : Int32) (udealt : Int32) : Int32 := (if udealt = 0 then 0 else 30 - udrawn)
theorem inX3_inPile_X3 : ∀ w ∈ u_ws RX3 TX3 15, w ∈ wsX3_inPile := by decide +kernel
set_option maxRecDepth 100000 in
set_option maxHeartbeats 4000000 in
theorem c_X3_inPile {l : Launch} {D : va_G} (b0 : Nat) (bP : Nat) (bR : Nat) (bS : Nat) (bT : Nat) (bG : Nat) (bW : Nat) (bH : Nat) (bO : Nat) (cP : ClassId) (cR : ClassId) (cS : ClassId) (cT : ClassId) (cG : ClassId) (cW : ClassId) (cH : ClassId) (cO : ClassId) (uplace : Nat → Int32) (urow : Nat → Int32) (upts : Nat → Int32) (utks : Nat → Int32) (uglv : Nat → Int32) (uwin : Nat → Int32) (uheld : Nat → Int32) (utab : Nat → Int32) (udrawn : Int32) (udealt : Int32) (uon : Int32) (uturn : Int32) (uled : Int32) (utr : Int32) (uthr : Int32) : jR l yX3_inPile wsX3_inPile rX3_inPile D [.ref b0] (jM b0 bP bR bS bT bG bW bH bO cP cR cS cT cG cW cH cO uplace urow upts utks uglv uwin uheld utab udrawn udealt uon uturn uled utr uthr) [(cP, .int), (cR, .int), (cS, .int), (cT, .int), (cG, .int), (cW, .int), (cH, .int), (cO, .int)] (.int (j_X3_inPile udrawn udealt)) := by
  refine jR_of (cc := cX3_inPile) (maxL := 1) (ret := (some .int)) (by decide) rfl (Nat.le_of_ble_eq_true rfl) ?_
  intro p e s m below meth c ls S hr hlocks hP hK hN hl
  obtain ⟨hx, hb, hml, hown, hts⟩ := id S
  have hl : lv_has ls 1 [(0, .ref b0)] := hl
  refine lv_aload_n hx hb dX3_inPile_0 rfl (lv_at hl 0 rfl) ?_
  refine va_get (D := D) (ci := 3) (v := .int udealt) (C := RX3) (T := TX3) (N := 15) hx hb hts inX3_inPile_X3 hown hK hP 0 rfl rfl 3 (by decide) (hts (.fieldLink RX3 58 "ArchivistTricksModel" "isDealt" "Z") (by decide +kernel)) (fun _ h9 => h9) rfl dX3_inPile_1 ?_
  refine lv_if_eq (tgt := 17) hx hb dX3_inPile_4 (by decide) (fun c_1 => ?_) (fun c_1 => ?_)
  · skip
    refine lv_iconst (v := 0) hx hb dX3_inPile_17 (by decide) ?_
    exact jr_iret hx hb hr hlocks dX3_inPile_18 (by simp only [j_X3_inPile, if_pos c_1])
  · skip
    refine lv_bipush (v := 30) hx hb dX3_inPile_7 (by decide) ?_
    refine lv_aload_n hx hb dX3_inPile_9 rfl (lv_at hl 0 rfl) ?_
    refine va_get (D := D) (ci := 3) (v := .int udrawn) (C := RX3) (T := TX3) (N := 15) hx hb hts inX3_inPile_X3 hown hK hP 0 rfl rfl 2 (by decide) (hts (.fieldLink RX3 62 "ArchivistTricksModel" "drawn" "I") (by decide +kernel)) (fun _ h9 => h9) rfl dX3_inPile_10 ?_
    refine lv_isub hx hb dX3_inPile_13 ?_
    refine lv_goto (tgt := 18) hx hb dX3_inPile_14 (by decide) ?_
    exact jr_iret hx hb hr hlocks dX3_inPile_18 (by simp only [j_X3_inPile, if_neg c_1])

abbrev rX3_howMany : Room := { frames := 0, cells := 0, slots := 0, locals := 0 }
def j_X3_howMany_4 (uplace : Nat → Int32) (udealt : Int32) (x0 : Int32) : Nat → Nat → Int32 → Int32
  | 0, i, y2 => y2
  | n + 1, i, y2 => (if udealt = 0 then y2 else (if uplace (nI i).toNatClampNeg = x0 then j_X3_howMany_4 uplace udealt x0 n (i + 1) (y2 + 1) else j_X3_howMany_4 uplace udealt x0 n (i + 1) (y2 + 0)))
def j_X3_howMany (uplace : Nat → Int32) (udealt : Int32) (x0 : Int32) : Int32 := j_X3_howMany_4 uplace udealt x0 42 0 0
theorem inX3_howMany_X3 : ∀ w ∈ u_ws RX3 TX3 15, w ∈ wsX3_howMany := by decide +kernel
set_option maxRecDepth 100000 in
set_option maxHeartbeats 4000000 in
theorem c_X3_howMany {l : Launch} {D : va_G} (b0 : Nat) (bP : Nat) (bR : Nat) (bS : Nat) (bT : Nat) (bG : Nat) (bW : Nat) (bH : Nat) (bO : Nat) (cP : ClassId) (cR : ClassId) (cS : ClassId) (cT : ClassId) (cG : ClassId) (cW : ClassId) (cH : ClassId) (cO : ClassId) (uplace : Nat → Int32) (urow : Nat → Int32) (upts : Nat → Int32) (utks : Nat → Int32) (uglv : Nat → Int32) (uwin : Nat → Int32) (uheld : Nat → Int32) (utab : Nat → Int32) (udrawn : Int32) (udealt : Int32) (uon : Int32) (uturn : Int32) (uled : Int32) (utr : Int32) (uthr : Int32) (x0 : Int32) : jR l yX3_howMany wsX3_howMany rX3_howMany D [.ref b0, .int x0] (jM b0 bP bR bS bT bG bW bH bO cP cR cS cT cG cW cH cO uplace urow upts utks uglv uwin uheld utab udrawn udealt uon uturn uled utr uthr) [(cP, .int), (cR, .int), (cS, .int), (cT, .int), (cG, .int), (cW, .int), (cH, .int), (cO, .int)] (.int (j_X3_howMany uplace udealt x0)) := by
  refine jR_of (cc := cX3_howMany) (maxL := 4) (ret := (some .int)) (by decide) rfl (Nat.le_of_ble_eq_true rfl) ?_
  intro p e s m below meth c ls S hr hlocks hP hK hN hl
  obtain ⟨hx, hb, hml, hown, hts⟩ := id S
  have hl : lv_has ls 4 [(0, .ref b0), (1, .int x0)] := hl
  have loop4 : ∀ (n i : Nat) (y2 : Int32), i + n = 42 → j_X3_howMany_4 uplace udealt x0 n i y2 = (j_X3_howMany uplace udealt x0) → ∀ (ls : Array Slot), lv_has ls 4 [(3, .int (nI i)), (2, .int y2), (0, .ref b0), (1, .int x0)] → W p l e rX3_howMany s m ([.ref b0, .int x0] : List Value).toArray below meth c s.heap [] 0 0 (MQ below (k2_QcV (.int (j_X3_howMany uplace udealt x0))) ([.ref b0, .int x0] : List Value).toArray s 0 0 (fun _ => False)) (F0 m 4 ls []) := by
    intro n
    induction n with
    | zero =>
      intro i y2 hin hv ls hl
      have hge : (42 : Int32) ≤ nI i := by rw [show i = 42 by omega]; decide
      have hgl : ¬ nI i < (42 : Int32) := by rw [show i = 42 by omega]; decide
      refine lv_iload_n hx hb dX3_howMany_4 rfl (lv_at hl 0 rfl) ?_
      refine lv_bipush (v := 42) hx hb dX3_howMany_5 (by decide) ?_
      refine lv_icmp_ge (tgt := 41) hx hb dX3_howMany_7 (by decide) (fun _ => ?_) (fun c_ => absurd hge c_)
      refine lv_iload_n hx hb dX3_howMany_41 rfl (lv_at hl 1 rfl) ?_
      exact jr_iret hx hb hr hlocks dX3_howMany_42 (by rw [← hv]; simp only [j_X3_howMany_4, if_pos hge, if_neg hgl])
    | succ n ih =>
      intro i y2 hin hv ls hl
      have hge : ¬ (42 : Int32) ≤ nI i := nI_ge (a := i) (b := 42) (by omega) (by decide)
      have hgl : nI i < (42 : Int32) := nI_lt (a := i) (b := 42) (by omega) (by decide)
      refine lv_iload_n hx hb dX3_howMany_4 rfl (lv_at hl 0 rfl) ?_
      refine lv_bipush (v := 42) hx hb dX3_howMany_5 (by decide) ?_
      refine lv_icmp_ge (tgt := 41) hx hb dX3_howMany_7 (by decide) (fun c_ => absurd c_ hge) (fun _ => ?_)
      refine lv_aload_n hx hb dX3_howMany_10 rfl (lv_at hl 2 rfl) ?_
      refine va_get (D := D) (ci := 3) (v := .int udealt) (C := RX3) (T := TX3) (N := 15) hx hb hts inX3_howMany_X3 hown hK hP 0 rfl rfl 3 (by decide) (hts (.fieldLink RX3 58 "ArchivistTricksModel" "isDealt" "Z") (by decide +kernel)) (fun _ h9 => h9) rfl dX3_howMany_11 ?_
      refine lv_if_eq (tgt := 41) hx hb dX3_howMany_14 (by decide) (fun c_4001 => ?_) (fun c_4001 => ?_)
      · skip
        refine lv_iload_n hx hb dX3_howMany_41 rfl (lv_at hl 1 rfl) ?_
        exact jr_iret hx hb hr hlocks dX3_howMany_42 (by rw [← hv]; simp only [j_X3_howMany_4, if_neg hge, if_pos hgl, if_pos c_4001])
      · skip
        refine lv_iload_n hx hb dX3_howMany_17 rfl (lv_at hl 1 rfl) ?_
        refine lv_aload_n hx hb dX3_howMany_18 rfl (lv_at hl 2 rfl) ?_
        refine va_get (D := D) (ci := 3) (v := .ref bP) (C := RX3) (T := TX3) (N := 15) hx hb hts inX3_howMany_X3 hown hK hP 0 rfl rfl 0 (by decide) (hts (.fieldLink RX3 7 "ArchivistTricksModel" "place" "[I") (by decide +kernel)) (fun _ h9 => h9) rfl dX3_howMany_19 ?_
        refine lv_iload_n hx hb dX3_howMany_22 rfl (lv_at hl 0 rfl) ?_
        refine va_iald hx hb hK hP 1 0 rfl rfl (i := nI i) (vp_in_nI (by omega) (by decide)) dX3_howMany_23 ?_
        refine lv_iload_n hx hb dX3_howMany_24 rfl (lv_at hl 3 rfl) ?_
        refine lv_icmp_ne (tgt := 32) hx hb dX3_howMany_25 (by decide) (fun c_4002 => ?_) (fun c_4002 => ?_)
        · skip
          refine lv_iconst (v := 0) hx hb dX3_howMany_32 (by decide) ?_
          refine lv_iadd hx hb dX3_howMany_33 ?_
          refine lv_istore_n (lv' := [(2, .int (y2 + 0)), (3, .int (nI i)), (0, .ref b0), (1, .int x0)]) hx hb dX3_howMany_34 rfl hl (by decide) rfl (fun ls hl => ?_)
          refine lv_iinc (v := nI (i + 1)) (lv' := [(3, .int (nI (i + 1))), (2, .int (y2 + 0)), (0, .ref b0), (1, .int x0)]) hx hb dX3_howMany_35 hl (k := 1) rfl (nI_1 i) (by decide) rfl (fun ls hl => ?_)
          refine lv_goto (tgt := 4) hx hb dX3_howMany_38 (by decide) ?_
          exact ih (i + 1) (y2 + 0) (by omega) (by rw [← hv]; simp only [j_X3_howMany_4, if_neg hge, if_pos hgl, if_neg c_4001, if_neg c_4002]) ls (lv_sub hl [0, 1, 2, 3] rfl)
        · skip
          refine lv_iconst (v := 1) hx hb dX3_howMany_28 (by decide) ?_
          refine lv_goto (tgt := 33) hx hb dX3_howMany_29 (by decide) ?_
          refine lv_iadd hx hb dX3_howMany_33 ?_
          refine lv_istore_n (lv' := [(2, .int (y2 + 1)), (3, .int (nI i)), (0, .ref b0), (1, .int x0)]) hx hb dX3_howMany_34 rfl hl (by decide) rfl (fun ls hl => ?_)
          refine lv_iinc (v := nI (i + 1)) (lv' := [(3, .int (nI (i + 1))), (2, .int (y2 + 1)), (0, .ref b0), (1, .int x0)]) hx hb dX3_howMany_35 hl (k := 1) rfl (nI_1 i) (by decide) rfl (fun ls hl => ?_)
          refine lv_goto (tgt := 4) hx hb dX3_howMany_38 (by decide) ?_
          exact ih (i + 1) (y2 + 1) (by omega) (by rw [← hv]; simp only [j_X3_howMany_4, if_neg hge, if_pos hgl, if_neg c_4001, if_pos c_4002]) ls (lv_sub hl [0, 1, 2, 3] rfl)
  refine lv_iconst (v := 0) hx hb dX3_howMany_0 (by decide) ?_
  refine lv_istore_n (lv' := [(2, .int 0), (0, .ref b0), (1, .int x0)]) hx hb dX3_howMany_1 rfl hl (by decide) rfl (fun ls hl => ?_)
  refine lv_iconst (v := 0) hx hb dX3_howMany_2 (by decide) ?_
  refine lv_istore_n (lv' := [(3, .int 0), (2, .int 0), (0, .ref b0), (1, .int x0)]) hx hb dX3_howMany_3 rfl hl (by decide) rfl (fun ls hl => ?_)
  exact loop4 42 0 0 rfl (by simp only [j_X3_howMany]) ls (lv_sub (l' := [(3, .int (nI 0)), (2, .int 0), (0, .ref b0), (1, .int x0)]) hl [0, 1, 2, 3] rfl)

abbrev rX3_hasOf : Room := { frames := 1, cells := 0, slots := 0, locals := 20 }
def j_X3_hasOf_5 (uplace : Nat → Int32) (x0 : Int32) (x1 : Int32) : Nat → Nat → Int32 → Int32
  | 0, i, y3 => y3
  | n + 1, i, y3 => (if y3 = 0 then (if uplace (nI i).toNatClampNeg = x0 then (if j_X3_provenance (nI i) = x1 then j_X3_hasOf_5 uplace x0 x1 n (i + 1) 1 else j_X3_hasOf_5 uplace x0 x1 n (i + 1) 0) else j_X3_hasOf_5 uplace x0 x1 n (i + 1) 0) else j_X3_hasOf_5 uplace x0 x1 n (i + 1) 1)
def j_X3_hasOf (uplace : Nat → Int32) (x0 : Int32) (x1 : Int32) : Int32 := j_X3_hasOf_5 uplace x0 x1 40 0 0
theorem inX3_hasOf_X3 : ∀ w ∈ u_ws RX3 TX3 15, w ∈ wsX3_hasOf := by decide +kernel
set_option maxRecDepth 100000 in
set_option maxHeartbeats 4000000 in
theorem c_X3_hasOf {l : Launch} {D : va_G} (b0 : Nat) (bP : Nat) (bR : Nat) (bS : Nat) (bT : Nat) (bG : Nat) (bW : Nat) (bH : Nat) (bO : Nat) (cP : ClassId) (cR : ClassId) (cS : ClassId) (cT : ClassId) (cG : ClassId) (cW : ClassId) (cH : ClassId) (cO : ClassId) (uplace : Nat → Int32) (urow : Nat → Int32) (upts : Nat → Int32) (utks : Nat → Int32) (uglv : Nat → Int32) (uwin : Nat → Int32) (uheld : Nat → Int32) (utab : Nat → Int32) (udrawn : Int32) (udealt : Int32) (uon : Int32) (uturn : Int32) (uled : Int32) (utr : Int32) (uthr : Int32) (x0 : Int32) (x1 : Int32) : jR l yX3_hasOf wsX3_hasOf rX3_hasOf D [.ref b0, .int x0, .int x1] (jM b0 bP bR bS bT bG bW bH bO cP cR cS cT cG cW cH cO uplace urow upts utks uglv uwin uheld utab udrawn udealt uon uturn uled utr uthr) [(cP, .int), (cR, .int), (cS, .int), (cT, .int), (cG, .int), (cW, .int), (cH, .int), (cO, .int)] (.int (j_X3_hasOf uplace x0 x1)) := by
  refine jR_of (cc := cX3_hasOf) (maxL := 5) (ret := (some .boolean)) (by decide) rfl (Nat.le_of_ble_eq_true rfl) ?_
  intro p e s m below meth c ls S hr hlocks hP hK hN hl
  obtain ⟨hx, hb, hml, hown, hts⟩ := id S
  have hl : lv_has ls 5 [(0, .ref b0), (1, .int x0), (2, .int x1)] := hl
  have loop5 : ∀ (n i : Nat) (y3 : Int32), i + n = 40 → (y3 = 0 ∨ y3 = 1) → j_X3_hasOf_5 uplace x0 x1 n i y3 = (j_X3_hasOf uplace x0 x1) → ∀ (ls : Array Slot), lv_has ls 5 [(4, .int (nI i)), (3, .int y3), (0, .ref b0), (1, .int x0), (2, .int x1)] → W p l e rX3_hasOf s m ([.ref b0, .int x0, .int x1] : List Value).toArray below meth c s.heap [] 0 0 (MQ below (k2_QcV (.int (j_X3_hasOf uplace x0 x1))) ([.ref b0, .int x0, .int x1] : List Value).toArray s 0 0 (fun _ => False)) (F0 m 5 ls []) := by
    intro n
    induction n with
    | zero =>
      intro i y3 hin hz3 hv ls hl
      have hge : (40 : Int32) ≤ nI i := by rw [show i = 40 by omega]; decide
      have hgl : ¬ nI i < (40 : Int32) := by rw [show i = 40 by omega]; decide
      refine lv_iload hx hb dX3_hasOf_5 (lv_at hl 0 rfl) ?_
      refine lv_bipush (v := 40) hx hb dX3_hasOf_7 (by decide) ?_
      refine lv_icmp_ge (tgt := 48) hx hb dX3_hasOf_9 (by decide) (fun _ => ?_) (fun c_ => absurd hge c_)
      refine lv_iload_n hx hb dX3_hasOf_48 rfl (lv_at hl 1 rfl) ?_
      exact jr_zret hx hb hr hlocks dX3_hasOf_49 (jx_nar hz3) (by rw [← hv]; simp only [j_X3_hasOf_5, if_pos hge, if_neg hgl])
    | succ n ih =>
      intro i y3 hin hz3 hv ls hl
      have hge : ¬ (40 : Int32) ≤ nI i := nI_ge (a := i) (b := 40) (by omega) (by decide)
      have hgl : nI i < (40 : Int32) := nI_lt (a := i) (b := 40) (by omega) (by decide)
      refine lv_iload hx hb dX3_hasOf_5 (lv_at hl 0 rfl) ?_
      refine lv_bipush (v := 40) hx hb dX3_hasOf_7 (by decide) ?_
      refine lv_icmp_ge (tgt := 48) hx hb dX3_hasOf_9 (by decide) (fun c_ => absurd c_ hge) (fun _ => ?_)
      refine lv_iload_n hx hb dX3_hasOf_12 rfl (lv_at hl 1 rfl) ?_
      refine lv_if_ne (tgt := 36) hx hb dX3_hasOf_13 (by decide) (fun c_5001 => ?_) (fun c_5001 => ?_)
      · skip
        refine lv_iconst (v := 1) hx hb dX3_hasOf_36 (by decide) ?_
        refine lv_goto (tgt := 41) hx hb dX3_hasOf_37 (by decide) ?_
        refine lv_istore_n (lv' := [(3, .int 1), (4, .int (nI i)), (0, .ref b0), (1, .int x0), (2, .int x1)]) hx hb dX3_hasOf_41 rfl hl (by decide) rfl (fun ls hl => ?_)
        refine lv_iinc (v := nI (i + 1)) (lv' := [(4, .int (nI (i + 1))), (3, .int 1), (0, .ref b0), (1, .int x0), (2, .int x1)]) hx hb dX3_hasOf_42 hl (k := 1) rfl (nI_1 i) (by decide) rfl (fun ls hl => ?_)
        refine lv_goto (tgt := 5) hx hb dX3_hasOf_45 (by decide) ?_
        exact ih (i + 1) 1 (by omega) (by decide) (by rw [← hv]; simp only [j_X3_hasOf_5, if_neg hge, if_pos hgl, if_neg c_5001]) ls (lv_sub hl [0, 1, 2, 3, 4] rfl)
      · skip
        refine lv_aload_n hx hb dX3_hasOf_16 rfl (lv_at hl 2 rfl) ?_
        refine va_get (D := D) (ci := 3) (v := .ref bP) (C := RX3) (T := TX3) (N := 15) hx hb hts inX3_hasOf_X3 hown hK hP 0 rfl rfl 0 (by decide) (hts (.fieldLink RX3 7 "ArchivistTricksModel" "place" "[I") (by decide +kernel)) (fun _ h9 => h9) rfl dX3_hasOf_17 ?_
        refine lv_iload hx hb dX3_hasOf_20 (lv_at hl 0 rfl) ?_
        refine va_iald hx hb hK hP 1 0 rfl rfl (i := nI i) (vp_in_nI (by omega) (by decide)) dX3_hasOf_22 ?_
        refine lv_iload_n hx hb dX3_hasOf_23 rfl (lv_at hl 3 rfl) ?_
        refine lv_icmp_ne (tgt := 40) hx hb dX3_hasOf_24 (by decide) (fun c_5002 => ?_) (fun c_5002 => ?_)
        · skip
          refine lv_iconst (v := 0) hx hb dX3_hasOf_40 (by decide) ?_
          refine lv_istore_n (lv' := [(3, .int 0), (4, .int (nI i)), (0, .ref b0), (1, .int x0), (2, .int x1)]) hx hb dX3_hasOf_41 rfl hl (by decide) rfl (fun ls hl => ?_)
          refine lv_iinc (v := nI (i + 1)) (lv' := [(4, .int (nI (i + 1))), (3, .int 0), (0, .ref b0), (1, .int x0), (2, .int x1)]) hx hb dX3_hasOf_42 hl (k := 1) rfl (nI_1 i) (by decide) rfl (fun ls hl => ?_)
          refine lv_goto (tgt := 5) hx hb dX3_hasOf_45 (by decide) ?_
          exact ih (i + 1) 0 (by omega) (by decide) (by rw [← hv]; simp only [j_X3_hasOf_5, if_neg hge, if_pos hgl, if_pos c_5001, if_neg c_5002]) ls (lv_sub hl [0, 1, 2, 3, 4] rfl)
        · skip
          refine lv_iload hx hb dX3_hasOf_27 (lv_at hl 0 rfl) ?_
          refine jr_callS (n := 1) (As := [.int (nI i)]) (rest := []) S (c_X3_provenance (nI i)) gX3_hasOf_X3_provenance rfl (by decide +kernel) rfl ⟨⟨rfl, rfl⟩, ⟨Nat.le_of_ble_eq_true rfl, Nat.le_of_ble_eq_true rfl⟩, Nat.le_of_ble_eq_true rfl, Nat.le_of_ble_eq_true rfl⟩ hP hK hN [] [] rfl rfl (lv_nil hl) rfl (Nat.le_of_ble_eq_true rfl) dX3_hasOf_29 ?_
          refine lv_iload_n hx hb dX3_hasOf_32 rfl (lv_at hl 4 rfl) ?_
          refine lv_icmp_ne (tgt := 40) hx hb dX3_hasOf_33 (by decide) (fun c_5003 => ?_) (fun c_5003 => ?_)
          · skip
            refine lv_iconst (v := 0) hx hb dX3_hasOf_40 (by decide) ?_
            refine lv_istore_n (lv' := [(3, .int 0), (4, .int (nI i)), (0, .ref b0), (1, .int x0), (2, .int x1)]) hx hb dX3_hasOf_41 rfl hl (by decide) rfl (fun ls hl => ?_)
            refine lv_iinc (v := nI (i + 1)) (lv' := [(4, .int (nI (i + 1))), (3, .int 0), (0, .ref b0), (1, .int x0), (2, .int x1)]) hx hb dX3_hasOf_42 hl (k := 1) rfl (nI_1 i) (by decide) rfl (fun ls hl => ?_)
            refine lv_goto (tgt := 5) hx hb dX3_hasOf_45 (by decide) ?_
            exact ih (i + 1) 0 (by omega) (by decide) (by rw [← hv]; simp only [j_X3_hasOf_5, if_neg hge, if_pos hgl, if_pos c_5001, if_pos c_5002, if_neg c_5003]) ls (lv_sub hl [0, 1, 2, 3, 4] rfl)
          · skip
            refine lv_iconst (v := 1) hx hb dX3_hasOf_36 (by decide) ?_
            refine lv_goto (tgt := 41) hx hb dX3_hasOf_37 (by decide) ?_
            refine lv_istore_n (lv' := [(3, .int 1), (4, .int (nI i)), (0, .ref b0), (1, .int x0), (2, .int x1)]) hx hb dX3_hasOf_41 rfl hl (by decide) rfl (fun ls hl => ?_)
            refine lv_iinc (v := nI (i + 1)) (lv' := [(4, .int (nI (i + 1))), (3, .int 1), (0, .ref b0), (1, .int x0), (2, .int x1)]) hx hb dX3_hasOf_42 hl (k := 1) rfl (nI_1 i) (by decide) rfl (fun ls hl => ?_)
            refine lv_goto (tgt := 5) hx hb dX3_hasOf_45 (by decide) ?_
            exact ih (i + 1) 1 (by omega) (by decide) (by rw [← hv]; simp only [j_X3_hasOf_5, if_neg hge, if_pos hgl, if_pos c_5001, if_pos c_5002, if_pos c_5003]) ls (lv_sub hl [0, 1, 2, 3, 4] rfl)
  refine lv_iconst (v := 0) hx hb dX3_hasOf_0 (by decide) ?_
  refine lv_istore_n (lv' := [(3, .int 0), (0, .ref b0), (1, .int x0), (2, .int x1)]) hx hb dX3_hasOf_1 rfl hl (by decide) rfl (fun ls hl => ?_)
  refine lv_iconst (v := 0) hx hb dX3_hasOf_2 (by decide) ?_
  refine lv_istore (lv' := [(4, .int 0), (3, .int 0), (0, .ref b0), (1, .int x0), (2, .int x1)]) hx hb dX3_hasOf_3 hl (by decide) rfl (fun ls hl => ?_)
  exact loop5 40 0 0 rfl (by decide) (by simp only [j_X3_hasOf]) ls (lv_sub (l' := [(4, .int (nI 0)), (3, .int 0), (0, .ref b0), (1, .int x0), (2, .int x1)]) hl [0, 1, 2, 3, 4] rfl)

abbrev rX3_hasDated : Room := { frames := 2, cells := 0, slots := 0, locals := 44 }
def j_X3_hasDated (uplace : Nat → Int32) (x0 : Int32) : Int32 := (if j_X3_hasOf uplace x0 0 = 0 then (if j_X3_hasOf uplace x0 1 = 0 then (if j_X3_hasOf uplace x0 2 = 0 then (if j_X3_hasOf uplace x0 3 = 0 then 0 else 1) else 1) else 1) else 1)
set_option maxRecDepth 100000 in
set_option maxHeartbeats 4000000 in
theorem c_X3_hasDated {l : Launch} {D : va_G} (b0 : Nat) (bP : Nat) (bR : Nat) (bS : Nat) (bT : Nat) (bG : Nat) (bW : Nat) (bH : Nat) (bO : Nat) (cP : ClassId) (cR : ClassId) (cS : ClassId) (cT : ClassId) (cG : ClassId) (cW : ClassId) (cH : ClassId) (cO : ClassId) (uplace : Nat → Int32) (urow : Nat → Int32) (upts : Nat → Int32) (utks : Nat → Int32) (uglv : Nat → Int32) (uwin : Nat → Int32) (uheld : Nat → Int32) (utab : Nat → Int32) (udrawn : Int32) (udealt : Int32) (uon : Int32) (uturn : Int32) (uled : Int32) (utr : Int32) (uthr : Int32) (x0 : Int32) : jR l yX3_hasDated wsX3_hasDated rX3_hasDated D [.ref b0, .int x0] (jM b0 bP bR bS bT bG bW bH bO cP cR cS cT cG cW cH cO uplace urow upts utks uglv uwin uheld utab udrawn udealt uon uturn uled utr uthr) [(cP, .int), (cR, .int), (cS, .int), (cT, .int), (cG, .int), (cW, .int), (cH, .int), (cO, .int)] (.int (j_X3_hasDated uplace x0)) := by
  refine jR_of (cc := cX3_hasDated) (maxL := 2) (ret := (some .boolean)) (by decide) rfl (Nat.le_of_ble_eq_true rfl) ?_
  intro p e s m below meth c ls S hr hlocks hP hK hN hl
  obtain ⟨hx, hb, hml, hown, hts⟩ := id S
  have hl : lv_has ls 2 [(0, .ref b0), (1, .int x0)] := hl
  refine lv_aload_n hx hb dX3_hasDated_0 rfl (lv_at hl 0 rfl) ?_
  refine lv_iload_n hx hb dX3_hasDated_1 rfl (lv_at hl 1 rfl) ?_
  refine lv_iconst (v := 0) hx hb dX3_hasDated_2 (by decide) ?_
  refine jr_callV (n := 2) (C := RX3) (As := [.int x0, .int 0]) (rest := []) S (c_X3_hasOf b0 bP bR bS bT bG bW bH bO cP cR cS cT cG cW cH cO uplace urow upts utks uglv uwin uheld utab udrawn udealt uon uturn uled utr uthr x0 0) gX3_hasDated_X3_hasOf rfl (by decide +kernel) rfl ⟨⟨rfl, rfl⟩, ⟨Nat.le_of_ble_eq_true rfl, Nat.le_of_ble_eq_true rfl⟩, Nat.le_of_ble_eq_true rfl, Nat.le_of_ble_eq_true rfl⟩ hP hK hN [0, 1, 2, 3, 4, 5, 6, 7, 8] [0, 1, 2, 3, 4, 5, 6, 7] rfl rfl 0 3 rfl rfl rfl (lv_nil hl) rfl (Nat.le_of_ble_eq_true rfl) dX3_hasDated_3 ?_
  refine lv_if_ne (tgt := 36) hx hb dX3_hasDated_6 (by decide) (fun c_1 => ?_) (fun c_1 => ?_)
  · skip
    refine lv_iconst (v := 1) hx hb dX3_hasDated_36 (by decide) ?_
    refine lv_goto (tgt := 41) hx hb dX3_hasDated_37 (by decide) ?_
    exact jr_zret hx hb hr hlocks dX3_hasDated_41 rfl (by simp only [j_X3_hasDated, if_neg c_1])
  · skip
    refine lv_aload_n hx hb dX3_hasDated_9 rfl (lv_at hl 0 rfl) ?_
    refine lv_iload_n hx hb dX3_hasDated_10 rfl (lv_at hl 1 rfl) ?_
    refine lv_iconst (v := 1) hx hb dX3_hasDated_11 (by decide) ?_
    refine jr_callV (n := 2) (C := RX3) (As := [.int x0, .int 1]) (rest := []) S (c_X3_hasOf b0 bP bR bS bT bG bW bH bO cP cR cS cT cG cW cH cO uplace urow upts utks uglv uwin uheld utab udrawn udealt uon uturn uled utr uthr x0 1) gX3_hasDated_X3_hasOf rfl (by decide +kernel) rfl ⟨⟨rfl, rfl⟩, ⟨Nat.le_of_ble_eq_true rfl, Nat.le_of_ble_eq_true rfl⟩, Nat.le_of_ble_eq_true rfl, Nat.le_of_ble_eq_true rfl⟩ hP hK hN [0, 1, 2, 3, 4, 5, 6, 7, 8] [0, 1, 2, 3, 4, 5, 6, 7] rfl rfl 0 3 rfl rfl rfl (lv_nil hl) rfl (Nat.le_of_ble_eq_true rfl) dX3_hasDated_12 ?_
    refine lv_if_ne (tgt := 36) hx hb dX3_hasDated_15 (by decide) (fun c_2 => ?_) (fun c_2 => ?_)
    · skip
      refine lv_iconst (v := 1) hx hb dX3_hasDated_36 (by decide) ?_
      refine lv_goto (tgt := 41) hx hb dX3_hasDated_37 (by decide) ?_
      exact jr_zret hx hb hr hlocks dX3_hasDated_41 rfl (by simp only [j_X3_hasDated, if_pos c_1, if_neg c_2])
    · skip
      refine lv_aload_n hx hb dX3_hasDated_18 rfl (lv_at hl 0 rfl) ?_
      refine lv_iload_n hx hb dX3_hasDated_19 rfl (lv_at hl 1 rfl) ?_
      refine lv_iconst (v := 2) hx hb dX3_hasDated_20 (by decide) ?_
      refine jr_callV (n := 2) (C := RX3) (As := [.int x0, .int 2]) (rest := []) S (c_X3_hasOf b0 bP bR bS bT bG bW bH bO cP cR cS cT cG cW cH cO uplace urow upts utks uglv uwin uheld utab udrawn udealt uon uturn uled utr uthr x0 2) gX3_hasDated_X3_hasOf rfl (by decide +kernel) rfl ⟨⟨rfl, rfl⟩, ⟨Nat.le_of_ble_eq_true rfl, Nat.le_of_ble_eq_true rfl⟩, Nat.le_of_ble_eq_true rfl, Nat.le_of_ble_eq_true rfl⟩ hP hK hN [0, 1, 2, 3, 4, 5, 6, 7, 8] [0, 1, 2, 3, 4, 5, 6, 7] rfl rfl 0 3 rfl rfl rfl (lv_nil hl) rfl (Nat.le_of_ble_eq_true rfl) dX3_hasDated_21 ?_
      refine lv_if_ne (tgt := 36) hx hb dX3_hasDated_24 (by decide) (fun c_3 => ?_) (fun c_3 => ?_)
      · skip
        refine lv_iconst (v := 1) hx hb dX3_hasDated_36 (by decide) ?_
        refine lv_goto (tgt := 41) hx hb dX3_hasDated_37 (by decide) ?_
        exact jr_zret hx hb hr hlocks dX3_hasDated_41 rfl (by simp only [j_X3_hasDated, if_pos c_1, if_pos c_2, if_neg c_3])
      · skip
        refine lv_aload_n hx hb dX3_hasDated_27 rfl (lv_at hl 0 rfl) ?_
        refine lv_iload_n hx hb dX3_hasDated_28 rfl (lv_at hl 1 rfl) ?_
        refine lv_iconst (v := 3) hx hb dX3_hasDated_29 (by decide) ?_
        refine jr_callV (n := 2) (C := RX3) (As := [.int x0, .int 3]) (rest := []) S (c_X3_hasOf b0 bP bR bS bT bG bW bH bO cP cR cS cT cG cW cH cO uplace urow upts utks uglv uwin uheld utab udrawn udealt uon uturn uled utr uthr x0 3) gX3_hasDated_X3_hasOf rfl (by decide +kernel) rfl ⟨⟨rfl, rfl⟩, ⟨Nat.le_of_ble_eq_true rfl, Nat.le_of_ble_eq_true rfl⟩, Nat.le_of_ble_eq_true rfl, Nat.le_of_ble_eq_true rfl⟩ hP hK hN [0, 1, 2, 3, 4, 5, 6, 7, 8] [0, 1, 2, 3, 4, 5, 6, 7] rfl rfl 0 3 rfl rfl rfl (lv_nil hl) rfl (Nat.le_of_ble_eq_true rfl) dX3_hasDated_30 ?_
        refine lv_if_eq (tgt := 40) hx hb dX3_hasDated_33 (by decide) (fun c_4 => ?_) (fun c_4 => ?_)
        · skip
          refine lv_iconst (v := 0) hx hb dX3_hasDated_40 (by decide) ?_
          exact jr_zret hx hb hr hlocks dX3_hasDated_41 rfl (by simp only [j_X3_hasDated, if_pos c_1, if_pos c_2, if_pos c_3, if_pos c_4])
        · skip
          refine lv_iconst (v := 1) hx hb dX3_hasDated_36 (by decide) ?_
          refine lv_goto (tgt := 41) hx hb dX3_hasDated_37 (by decide) ?_
          exact jr_zret hx hb hr hlocks dX3_hasDated_41 rfl (by simp only [j_X3_hasDated, if_pos c_1, if_pos c_2, if_pos c_3, if_neg c_4])

abbrev rX3_why : Room := { frames := 3, cells := 0, slots := 0, locals := 65 }
def j_X3_why (uplace : Nat → Int32) (udrawn : Int32) (udealt : Int32) (uon : Int32) (uturn : Int32) (uled : Int32) (utr : Int32) (x0 : Int32) : Int32 := (if uon = 0 then 1 else (if uplace (x0).toNatClampNeg = uturn then (if 0 ≤ uled then (if 0 < j_X3_inPile udrawn udealt then 0 else (if j_X3_isMildew uled = 0 then (if j_X3_hasOf uplace uturn (j_X3_provenance uled) = 0 then (if j_X3_hasOf uplace uturn utr = 0 then 0 else (if j_X3_isTrump utr x0 = 0 then 5 else 0)) else (if j_X3_isMildew x0 = 0 then (if j_X3_provenance x0 = j_X3_provenance uled then 0 else 4) else 4)) else 0)) else (if j_X3_isMildew x0 = 0 then 0 else (if j_X3_hasDated uplace uturn = 0 then 0 else 3))) else 2))
theorem inX3_why_X3 : ∀ w ∈ u_ws RX3 TX3 15, w ∈ wsX3_why := by decide +kernel
set_option maxRecDepth 100000 in
set_option maxHeartbeats 4000000 in
theorem c_X3_why {l : Launch} {D : va_G} (b0 : Nat) (bP : Nat) (bR : Nat) (bS : Nat) (bT : Nat) (bG : Nat) (bW : Nat) (bH : Nat) (bO : Nat) (cP : ClassId) (cR : ClassId) (cS : ClassId) (cT : ClassId) (cG : ClassId) (cW : ClassId) (cH : ClassId) (cO : ClassId) (uplace : Nat → Int32) (urow : Nat → Int32) (upts : Nat → Int32) (utks : Nat → Int32) (uglv : Nat → Int32) (uwin : Nat → Int32) (uheld : Nat → Int32) (utab : Nat → Int32) (udrawn : Int32) (udealt : Int32) (uon : Int32) (uturn : Int32) (uled : Int32) (utr : Int32) (uthr : Int32) (x0 : Int32) (hc : vp_in x0 42) : jR l yX3_why wsX3_why rX3_why D [.ref b0, .int x0] (jM b0 bP bR bS bT bG bW bH bO cP cR cS cT cG cW cH cO uplace urow upts utks uglv uwin uheld utab udrawn udealt uon uturn uled utr uthr) [(cP, .int), (cR, .int), (cS, .int), (cT, .int), (cG, .int), (cW, .int), (cH, .int), (cO, .int)] (.int (j_X3_why uplace udrawn udealt uon uturn uled utr x0)) := by
  refine jR_of (cc := cX3_why) (maxL := 2) (ret := (some .int)) (by decide) rfl (Nat.le_of_ble_eq_true rfl) ?_
  intro p e s m below meth c ls S hr hlocks hP hK hN hl
  obtain ⟨hx, hb, hml, hown, hts⟩ := id S
  have hl : lv_has ls 2 [(0, .ref b0), (1, .int x0)] := hl
  refine lv_aload_n hx hb dX3_why_0 rfl (lv_at hl 0 rfl) ?_
  refine va_get (D := D) (ci := 3) (v := .int uon) (C := RX3) (T := TX3) (N := 15) hx hb hts inX3_why_X3 hown hK hP 0 rfl rfl 4 (by decide) (hts (.fieldLink RX3 72 "ArchivistTricksModel" "isOn" "Z") (by decide +kernel)) (fun _ h9 => h9) rfl dX3_why_1 ?_
  refine lv_if_ne (tgt := 9) hx hb dX3_why_4 (by decide) (fun c_1 => ?_) (fun c_1 => ?_)
  · skip
    refine lv_aload_n hx hb dX3_why_9 rfl (lv_at hl 0 rfl) ?_
    refine va_get (D := D) (ci := 3) (v := .ref bP) (C := RX3) (T := TX3) (N := 15) hx hb hts inX3_why_X3 hown hK hP 0 rfl rfl 0 (by decide) (hts (.fieldLink RX3 7 "ArchivistTricksModel" "place" "[I") (by decide +kernel)) (fun _ h9 => h9) rfl dX3_why_10 ?_
    refine lv_iload_n hx hb dX3_why_13 rfl (lv_at hl 1 rfl) ?_
    refine va_iald hx hb hK hP 1 0 rfl rfl (i := x0) hc dX3_why_14 ?_
    refine lv_aload_n hx hb dX3_why_15 rfl (lv_at hl 0 rfl) ?_
    refine va_get (D := D) (ci := 3) (v := .int uturn) (C := RX3) (T := TX3) (N := 15) hx hb hts inX3_why_X3 hown hK hP 0 rfl rfl 5 (by decide) (hts (.fieldLink RX3 69 "ArchivistTricksModel" "turn" "I") (by decide +kernel)) (fun _ h9 => h9) rfl dX3_why_16 ?_
    refine lv_icmp_eq (tgt := 24) hx hb dX3_why_19 (by decide) (fun c_2 => ?_) (fun c_2 => ?_)
    · skip
      refine lv_aload_n hx hb dX3_why_24 rfl (lv_at hl 0 rfl) ?_
      refine va_get (D := D) (ci := 3) (v := .int uled) (C := RX3) (T := TX3) (N := 15) hx hb hts inX3_why_X3 hown hK hP 0 rfl rfl 6 (by decide) (hts (.fieldLink RX3 16 "ArchivistTricksModel" "ledCard" "I") (by decide +kernel)) (fun _ h9 => h9) rfl dX3_why_25 ?_
      refine lv_if_ge (tgt := 55) hx hb dX3_why_28 (by decide) (fun c_3 => ?_) (fun c_3 => ?_)
      · skip
        refine lv_aload_n hx hb dX3_why_55 rfl (lv_at hl 0 rfl) ?_
        refine jr_callV (n := 0) (C := RX3) (As := []) (rest := []) S (c_X3_inPile b0 bP bR bS bT bG bW bH bO cP cR cS cT cG cW cH cO uplace urow upts utks uglv uwin uheld utab udrawn udealt uon uturn uled utr uthr) gX3_why_X3_inPile rfl (by decide +kernel) rfl ⟨⟨rfl, rfl⟩, ⟨Nat.le_of_ble_eq_true rfl, Nat.le_of_ble_eq_true rfl⟩, Nat.le_of_ble_eq_true rfl, Nat.le_of_ble_eq_true rfl⟩ hP hK hN [0, 1, 2, 3, 4, 5, 6, 7, 8] [0, 1, 2, 3, 4, 5, 6, 7] rfl rfl 0 3 rfl rfl rfl (lv_nil hl) rfl (Nat.le_of_ble_eq_true rfl) dX3_why_56 ?_
        refine lv_if_gt (tgt := 72) hx hb dX3_why_59 (by decide) (fun c_4 => ?_) (fun c_4 => ?_)
        · skip
          refine lv_iconst (v := 0) hx hb dX3_why_72 (by decide) ?_
          exact jr_iret hx hb hr hlocks dX3_why_73 (by simp only [j_X3_why, if_neg c_1, if_pos c_2, if_pos c_3, if_pos c_4])
        · skip
          refine lv_aload_n hx hb dX3_why_62 rfl (lv_at hl 0 rfl) ?_
          refine va_get (D := D) (ci := 3) (v := .int uled) (C := RX3) (T := TX3) (N := 15) hx hb hts inX3_why_X3 hown hK hP 0 rfl rfl 6 (by decide) (hts (.fieldLink RX3 16 "ArchivistTricksModel" "ledCard" "I") (by decide +kernel)) (fun _ h9 => h9) rfl dX3_why_63 ?_
          refine jr_callS (n := 1) (As := [.int uled]) (rest := []) S (c_X3_isMildew uled) gX3_why_X3_isMildew rfl (by decide +kernel) rfl ⟨⟨rfl, rfl⟩, ⟨Nat.le_of_ble_eq_true rfl, Nat.le_of_ble_eq_true rfl⟩, Nat.le_of_ble_eq_true rfl, Nat.le_of_ble_eq_true rfl⟩ hP hK hN [] [] rfl rfl (lv_nil hl) rfl (Nat.le_of_ble_eq_true rfl) dX3_why_66 ?_
          refine lv_if_eq (tgt := 74) hx hb dX3_why_69 (by decide) (fun c_5 => ?_) (fun c_5 => ?_)
          · skip
            refine lv_aload_n hx hb dX3_why_74 rfl (lv_at hl 0 rfl) ?_
            refine lv_aload_n hx hb dX3_why_75 rfl (lv_at hl 0 rfl) ?_
            refine va_get (D := D) (ci := 3) (v := .int uturn) (C := RX3) (T := TX3) (N := 15) hx hb hts inX3_why_X3 hown hK hP 0 rfl rfl 5 (by decide) (hts (.fieldLink RX3 69 "ArchivistTricksModel" "turn" "I") (by decide +kernel)) (fun _ h9 => h9) rfl dX3_why_76 ?_
            refine lv_aload_n hx hb dX3_why_79 rfl (lv_at hl 0 rfl) ?_
            refine va_get (D := D) (ci := 3) (v := .int uled) (C := RX3) (T := TX3) (N := 15) hx hb hts inX3_why_X3 hown hK hP 0 rfl rfl 6 (by decide) (hts (.fieldLink RX3 16 "ArchivistTricksModel" "ledCard" "I") (by decide +kernel)) (fun _ h9 => h9) rfl dX3_why_80 ?_
            refine jr_callS (n := 1) (As := [.int uled]) (rest := [.int uturn, .ref b0]) S (c_X3_provenance uled) gX3_why_X3_provenance rfl (by decide +kernel) rfl ⟨⟨rfl, rfl⟩, ⟨Nat.le_of_ble_eq_true rfl, Nat.le_of_ble_eq_true rfl⟩, Nat.le_of_ble_eq_true rfl, Nat.le_of_ble_eq_true rfl⟩ hP hK hN [] [] rfl rfl (lv_nil hl) rfl (Nat.le_of_ble_eq_true rfl) dX3_why_83 ?_
            refine jr_callV (n := 2) (C := RX3) (As := [.int uturn, .int (j_X3_provenance uled)]) (rest := []) S (c_X3_hasOf b0 bP bR bS bT bG bW bH bO cP cR cS cT cG cW cH cO uplace urow upts utks uglv uwin uheld utab udrawn udealt uon uturn uled utr uthr uturn (j_X3_provenance uled)) gX3_why_X3_hasOf rfl (by decide +kernel) rfl ⟨⟨rfl, rfl⟩, ⟨Nat.le_of_ble_eq_true rfl, Nat.le_of_ble_eq_true rfl⟩, Nat.le_of_ble_eq_true rfl, Nat.le_of_ble_eq_true rfl⟩ hP hK hN [0, 1, 2, 3, 4, 5, 6, 7, 8] [0, 1, 2, 3, 4, 5, 6, 7] rfl rfl 0 3 rfl rfl rfl (lv_nil hl) rfl (Nat.le_of_ble_eq_true rfl) dX3_why_86 ?_
            refine lv_if_eq (tgt := 119) hx hb dX3_why_89 (by decide) (fun c_6 => ?_) (fun c_6 => ?_)
            · skip
              refine lv_aload_n hx hb dX3_why_119 rfl (lv_at hl 0 rfl) ?_
              refine lv_aload_n hx hb dX3_why_120 rfl (lv_at hl 0 rfl) ?_
              refine va_get (D := D) (ci := 3) (v := .int uturn) (C := RX3) (T := TX3) (N := 15) hx hb hts inX3_why_X3 hown hK hP 0 rfl rfl 5 (by decide) (hts (.fieldLink RX3 69 "ArchivistTricksModel" "turn" "I") (by decide +kernel)) (fun _ h9 => h9) rfl dX3_why_121 ?_
              refine lv_aload_n hx hb dX3_why_124 rfl (lv_at hl 0 rfl) ?_
              refine va_get (D := D) (ci := 3) (v := .int utr) (C := RX3) (T := TX3) (N := 15) hx hb hts inX3_why_X3 hown hK hP 0 rfl rfl 7 (by decide) (hts (.fieldLink RX3 20 "ArchivistTricksModel" "trumps" "I") (by decide +kernel)) (fun _ h9 => h9) rfl dX3_why_125 ?_
              refine jr_callV (n := 2) (C := RX3) (As := [.int uturn, .int utr]) (rest := []) S (c_X3_hasOf b0 bP bR bS bT bG bW bH bO cP cR cS cT cG cW cH cO uplace urow upts utks uglv uwin uheld utab udrawn udealt uon uturn uled utr uthr uturn utr) gX3_why_X3_hasOf rfl (by decide +kernel) rfl ⟨⟨rfl, rfl⟩, ⟨Nat.le_of_ble_eq_true rfl, Nat.le_of_ble_eq_true rfl⟩, Nat.le_of_ble_eq_true rfl, Nat.le_of_ble_eq_true rfl⟩ hP hK hN [0, 1, 2, 3, 4, 5, 6, 7, 8] [0, 1, 2, 3, 4, 5, 6, 7] rfl rfl 0 3 rfl rfl rfl (lv_nil hl) rfl (Nat.le_of_ble_eq_true rfl) dX3_why_128 ?_
              refine lv_if_eq (tgt := 146) hx hb dX3_why_131 (by decide) (fun c_7 => ?_) (fun c_7 => ?_)
              · skip
                refine lv_iconst (v := 0) hx hb dX3_why_146 (by decide) ?_
                exact jr_iret hx hb hr hlocks dX3_why_147 (by simp only [j_X3_why, if_neg c_1, if_pos c_2, if_pos c_3, if_neg c_4, if_pos c_5, if_pos c_6, if_pos c_7])
              · skip
                refine lv_aload_n hx hb dX3_why_134 rfl (lv_at hl 0 rfl) ?_
                refine lv_iload_n hx hb dX3_why_135 rfl (lv_at hl 1 rfl) ?_
                refine jr_callV (n := 1) (C := RX3) (As := [.int x0]) (rest := []) S (c_X3_isTrump b0 bP bR bS bT bG bW bH bO cP cR cS cT cG cW cH cO uplace urow upts utks uglv uwin uheld utab udrawn udealt uon uturn uled utr uthr x0) gX3_why_X3_isTrump rfl (by decide +kernel) rfl ⟨⟨rfl, rfl⟩, ⟨Nat.le_of_ble_eq_true rfl, Nat.le_of_ble_eq_true rfl⟩, Nat.le_of_ble_eq_true rfl, Nat.le_of_ble_eq_true rfl⟩ hP hK hN [0, 1, 2, 3, 4, 5, 6, 7, 8] [0, 1, 2, 3, 4, 5, 6, 7] rfl rfl 0 3 rfl rfl rfl (lv_nil hl) rfl (Nat.le_of_ble_eq_true rfl) dX3_why_136 ?_
                refine lv_if_ne (tgt := 146) hx hb dX3_why_139 (by decide) (fun c_8 => ?_) (fun c_8 => ?_)
                · skip
                  refine lv_iconst (v := 0) hx hb dX3_why_146 (by decide) ?_
                  exact jr_iret hx hb hr hlocks dX3_why_147 (by simp only [j_X3_why, if_neg c_1, if_pos c_2, if_pos c_3, if_neg c_4, if_pos c_5, if_pos c_6, if_neg c_7, if_neg c_8])
                · skip
                  refine lv_iconst (v := 5) hx hb dX3_why_142 (by decide) ?_
                  refine lv_goto (tgt := 147) hx hb dX3_why_143 (by decide) ?_
                  exact jr_iret hx hb hr hlocks dX3_why_147 (by simp only [j_X3_why, if_neg c_1, if_pos c_2, if_pos c_3, if_neg c_4, if_pos c_5, if_pos c_6, if_neg c_7, if_pos c_8])
            · skip
              refine lv_iload_n hx hb dX3_why_92 rfl (lv_at hl 1 rfl) ?_
              refine jr_callS (n := 1) (As := [.int x0]) (rest := []) S (c_X3_isMildew x0) gX3_why_X3_isMildew rfl (by decide +kernel) rfl ⟨⟨rfl, rfl⟩, ⟨Nat.le_of_ble_eq_true rfl, Nat.le_of_ble_eq_true rfl⟩, Nat.le_of_ble_eq_true rfl, Nat.le_of_ble_eq_true rfl⟩ hP hK hN [] [] rfl rfl (lv_nil hl) rfl (Nat.le_of_ble_eq_true rfl) dX3_why_93 ?_
              refine lv_if_ne (tgt := 117) hx hb dX3_why_96 (by decide) (fun c_9 => ?_) (fun c_9 => ?_)
              · skip
                refine lv_iconst (v := 4) hx hb dX3_why_117 (by decide) ?_
                exact jr_iret hx hb hr hlocks dX3_why_118 (by simp only [j_X3_why, if_neg c_1, if_pos c_2, if_pos c_3, if_neg c_4, if_pos c_5, if_neg c_6, if_neg c_9])
              · skip
                refine lv_iload_n hx hb dX3_why_99 rfl (lv_at hl 1 rfl) ?_
                refine jr_callS (n := 1) (As := [.int x0]) (rest := []) S (c_X3_provenance x0) gX3_why_X3_provenance rfl (by decide +kernel) rfl ⟨⟨rfl, rfl⟩, ⟨Nat.le_of_ble_eq_true rfl, Nat.le_of_ble_eq_true rfl⟩, Nat.le_of_ble_eq_true rfl, Nat.le_of_ble_eq_true rfl⟩ hP hK hN [] [] rfl rfl (lv_nil hl) rfl (Nat.le_of_ble_eq_true rfl) dX3_why_100 ?_
                refine lv_aload_n hx hb dX3_why_103 rfl (lv_at hl 0 rfl) ?_
                refine va_get (D := D) (ci := 3) (v := .int uled) (C := RX3) (T := TX3) (N := 15) hx hb hts inX3_why_X3 hown hK hP 0 rfl rfl 6 (by decide) (hts (.fieldLink RX3 16 "ArchivistTricksModel" "ledCard" "I") (by decide +kernel)) (fun _ h9 => h9) rfl dX3_why_104 ?_
                refine jr_callS (n := 1) (As := [.int uled]) (rest := [.int (j_X3_provenance x0)]) S (c_X3_provenance uled) gX3_why_X3_provenance rfl (by decide +kernel) rfl ⟨⟨rfl, rfl⟩, ⟨Nat.le_of_ble_eq_true rfl, Nat.le_of_ble_eq_true rfl⟩, Nat.le_of_ble_eq_true rfl, Nat.le_of_ble_eq_true rfl⟩ hP hK hN [] [] rfl rfl (lv_nil hl) rfl (Nat.le_of_ble_eq_true rfl) dX3_why_107 ?_
                refine lv_icmp_ne (tgt := 117) hx hb dX3_why_110 (by decide) (fun c_10 => ?_) (fun c_10 => ?_)
                · skip
                  refine lv_iconst (v := 4) hx hb dX3_why_117 (by decide) ?_
                  exact jr_iret hx hb hr hlocks dX3_why_118 (by simp only [j_X3_why, if_neg c_1, if_pos c_2, if_pos c_3, if_neg c_4, if_pos c_5, if_neg c_6, if_pos c_9, if_neg c_10])
                · skip
                  refine lv_iconst (v := 0) hx hb dX3_why_113 (by decide) ?_
                  refine lv_goto (tgt := 118) hx hb dX3_why_114 (by decide) ?_
                  exact jr_iret hx hb hr hlocks dX3_why_118 (by simp only [j_X3_why, if_neg c_1, if_pos c_2, if_pos c_3, if_neg c_4, if_pos c_5, if_neg c_6, if_pos c_9, if_pos c_10])
          · skip
            refine lv_iconst (v := 0) hx hb dX3_why_72 (by decide) ?_
            exact jr_iret hx hb hr hlocks dX3_why_73 (by simp only [j_X3_why, if_neg c_1, if_pos c_2, if_pos c_3, if_neg c_4, if_neg c_5])
      · skip
        refine lv_iload_n hx hb dX3_why_31 rfl (lv_at hl 1 rfl) ?_
        refine jr_callS (n := 1) (As := [.int x0]) (rest := []) S (c_X3_isMildew x0) gX3_why_X3_isMildew rfl (by decide +kernel) rfl ⟨⟨rfl, rfl⟩, ⟨Nat.le_of_ble_eq_true rfl, Nat.le_of_ble_eq_true rfl⟩, Nat.le_of_ble_eq_true rfl, Nat.le_of_ble_eq_true rfl⟩ hP hK hN [] [] rfl rfl (lv_nil hl) rfl (Nat.le_of_ble_eq_true rfl) dX3_why_32 ?_
        refine lv_if_eq (tgt := 53) hx hb dX3_why_35 (by decide) (fun c_11 => ?_) (fun c_11 => ?_)
        · skip
          refine lv_iconst (v := 0) hx hb dX3_why_53 (by decide) ?_
          exact jr_iret hx hb hr hlocks dX3_why_54 (by simp only [j_X3_why, if_neg c_1, if_pos c_2, if_neg c_3, if_pos c_11])
        · skip
          refine lv_aload_n hx hb dX3_why_38 rfl (lv_at hl 0 rfl) ?_
          refine lv_aload_n hx hb dX3_why_39 rfl (lv_at hl 0 rfl) ?_
          refine va_get (D := D) (ci := 3) (v := .int uturn) (C := RX3) (T := TX3) (N := 15) hx hb hts inX3_why_X3 hown hK hP 0 rfl rfl 5 (by decide) (hts (.fieldLink RX3 69 "ArchivistTricksModel" "turn" "I") (by decide +kernel)) (fun _ h9 => h9) rfl dX3_why_40 ?_
          refine jr_callV (n := 1) (C := RX3) (As := [.int uturn]) (rest := []) S (c_X3_hasDated b0 bP bR bS bT bG bW bH bO cP cR cS cT cG cW cH cO uplace urow upts utks uglv uwin uheld utab udrawn udealt uon uturn uled utr uthr uturn) gX3_why_X3_hasDated rfl (by decide +kernel) rfl ⟨⟨rfl, rfl⟩, ⟨Nat.le_of_ble_eq_true rfl, Nat.le_of_ble_eq_true rfl⟩, Nat.le_of_ble_eq_true rfl, Nat.le_of_ble_eq_true rfl⟩ hP hK hN [0, 1, 2, 3, 4, 5, 6, 7, 8] [0, 1, 2, 3, 4, 5, 6, 7] rfl rfl 0 3 rfl rfl rfl (lv_nil hl) rfl (Nat.le_of_ble_eq_true rfl) dX3_why_43 ?_
          refine lv_if_eq (tgt := 53) hx hb dX3_why_46 (by decide) (fun c_12 => ?_) (fun c_12 => ?_)
          · skip
            refine lv_iconst (v := 0) hx hb dX3_why_53 (by decide) ?_
            exact jr_iret hx hb hr hlocks dX3_why_54 (by simp only [j_X3_why, if_neg c_1, if_pos c_2, if_neg c_3, if_neg c_11, if_pos c_12])
          · skip
            refine lv_iconst (v := 3) hx hb dX3_why_49 (by decide) ?_
            refine lv_goto (tgt := 54) hx hb dX3_why_50 (by decide) ?_
            exact jr_iret hx hb hr hlocks dX3_why_54 (by simp only [j_X3_why, if_neg c_1, if_pos c_2, if_neg c_3, if_neg c_11, if_neg c_12])
    · skip
      refine lv_iconst (v := 2) hx hb dX3_why_22 (by decide) ?_
      exact jr_iret hx hb hr hlocks dX3_why_23 (by simp only [j_X3_why, if_neg c_1, if_neg c_2])
  · skip
    refine lv_iconst (v := 1) hx hb dX3_why_7 (by decide) ?_
    exact jr_iret hx hb hr hlocks dX3_why_8 (by simp only [j_X3_why, if_pos c_1])

abbrev rX3_wornNow : Room := { frames := 0, cells := 0, slots := 0, locals := 0 }
def j_X3_wornNow (uglv : Nat → Int32) : Int32 := (if uglv (0 : Int32).toNatClampNeg = 1 then (if uglv (1 : Int32).toNatClampNeg = 1 then 1 + 2 else 1 + 0) else (if uglv (1 : Int32).toNatClampNeg = 1 then 0 + 2 else 0 + 0))
theorem inX3_wornNow_X3 : ∀ w ∈ u_ws RX3 TX3 15, w ∈ wsX3_wornNow := by decide +kernel
set_option maxRecDepth 100000 in
set_option maxHeartbeats 4000000 in
theorem c_X3_wornNow {l : Launch} {D : va_G} (b0 : Nat) (bP : Nat) (bR : Nat) (bS : Nat) (bT : Nat) (bG : Nat) (bW : Nat) (bH : Nat) (bO : Nat) (cP : ClassId) (cR : ClassId) (cS : ClassId) (cT : ClassId) (cG : ClassId) (cW : ClassId) (cH : ClassId) (cO : ClassId) (uplace : Nat → Int32) (urow : Nat → Int32) (upts : Nat → Int32) (utks : Nat → Int32) (uglv : Nat → Int32) (uwin : Nat → Int32) (uheld : Nat → Int32) (utab : Nat → Int32) (udrawn : Int32) (udealt : Int32) (uon : Int32) (uturn : Int32) (uled : Int32) (utr : Int32) (uthr : Int32) : jR l yX3_wornNow wsX3_wornNow rX3_wornNow D [.ref b0] (jM b0 bP bR bS bT bG bW bH bO cP cR cS cT cG cW cH cO uplace urow upts utks uglv uwin uheld utab udrawn udealt uon uturn uled utr uthr) [(cP, .int), (cR, .int), (cS, .int), (cT, .int), (cG, .int), (cW, .int), (cH, .int), (cO, .int)] (.int (j_X3_wornNow uglv)) := by
  refine jR_of (cc := cX3_wornNow) (maxL := 1) (ret := (some .int)) (by decide) rfl (Nat.le_of_ble_eq_true rfl) ?_
  intro p e s m below meth c ls S hr hlocks hP hK hN hl
  obtain ⟨hx, hb, hml, hown, hts⟩ := id S
  have hl : lv_has ls 1 [(0, .ref b0)] := hl
  refine lv_aload_n hx hb dX3_wornNow_0 rfl (lv_at hl 0 rfl) ?_
  refine va_get (D := D) (ci := 3) (v := .ref bG) (C := RX3) (T := TX3) (N := 15) hx hb hts inX3_wornNow_X3 hown hK hP 0 rfl rfl 10 (by decide) (hts (.fieldLink RX3 29 "ArchivistTricksModel" "gloves" "[I") (by decide +kernel)) (fun _ h9 => h9) rfl dX3_wornNow_1 ?_
  refine lv_iconst (v := 0) hx hb dX3_wornNow_4 (by decide) ?_
  refine va_iald hx hb hK hP 5 4 rfl rfl (i := 0) (by unfold vp_in; decide) dX3_wornNow_5 ?_
  refine lv_iconst (v := 1) hx hb dX3_wornNow_6 (by decide) ?_
  refine lv_icmp_ne (tgt := 14) hx hb dX3_wornNow_7 (by decide) (fun c_1 => ?_) (fun c_1 => ?_)
  · skip
    refine lv_iconst (v := 0) hx hb dX3_wornNow_14 (by decide) ?_
    refine lv_aload_n hx hb dX3_wornNow_15 rfl (lv_at hl 0 rfl) ?_
    refine va_get (D := D) (ci := 3) (v := .ref bG) (C := RX3) (T := TX3) (N := 15) hx hb hts inX3_wornNow_X3 hown hK hP 0 rfl rfl 10 (by decide) (hts (.fieldLink RX3 29 "ArchivistTricksModel" "gloves" "[I") (by decide +kernel)) (fun _ h9 => h9) rfl dX3_wornNow_16 ?_
    refine lv_iconst (v := 1) hx hb dX3_wornNow_19 (by decide) ?_
    refine va_iald hx hb hK hP 5 4 rfl rfl (i := 1) (by unfold vp_in; decide) dX3_wornNow_20 ?_
    refine lv_iconst (v := 1) hx hb dX3_wornNow_21 (by decide) ?_
    refine lv_icmp_ne (tgt := 29) hx hb dX3_wornNow_22 (by decide) (fun c_2 => ?_) (fun c_2 => ?_)
    · skip
      refine lv_iconst (v := 0) hx hb dX3_wornNow_29 (by decide) ?_
      refine lv_iadd hx hb dX3_wornNow_30 ?_
      exact jr_iret hx hb hr hlocks dX3_wornNow_31 (by simp only [j_X3_wornNow, if_neg c_1, if_neg c_2])
    · skip
      refine lv_iconst (v := 2) hx hb dX3_wornNow_25 (by decide) ?_
      refine lv_goto (tgt := 30) hx hb dX3_wornNow_26 (by decide) ?_
      refine lv_iadd hx hb dX3_wornNow_30 ?_
      exact jr_iret hx hb hr hlocks dX3_wornNow_31 (by simp only [j_X3_wornNow, if_neg c_1, if_pos c_2])
  · skip
    refine lv_iconst (v := 1) hx hb dX3_wornNow_10 (by decide) ?_
    refine lv_goto (tgt := 15) hx hb dX3_wornNow_11 (by decide) ?_
    refine lv_aload_n hx hb dX3_wornNow_15 rfl (lv_at hl 0 rfl) ?_
    refine va_get (D := D) (ci := 3) (v := .ref bG) (C := RX3) (T := TX3) (N := 15) hx hb hts inX3_wornNow_X3 hown hK hP 0 rfl rfl 10 (by decide) (hts (.fieldLink RX3 29 "ArchivistTricksModel" "gloves" "[I") (by decide +kernel)) (fun _ h9 => h9) rfl dX3_wornNow_16 ?_
    refine lv_iconst (v := 1) hx hb dX3_wornNow_19 (by decide) ?_
    refine va_iald hx hb hK hP 5 4 rfl rfl (i := 1) (by unfold vp_in; decide) dX3_wornNow_20 ?_
    refine lv_iconst (v := 1) hx hb dX3_wornNow_21 (by decide) ?_
    refine lv_icmp_ne (tgt := 29) hx hb dX3_wornNow_22 (by decide) (fun c_3 => ?_) (fun c_3 => ?_)
    · skip
      refine lv_iconst (v := 0) hx hb dX3_wornNow_29 (by decide) ?_
      refine lv_iadd hx hb dX3_wornNow_30 ?_
      exact jr_iret hx hb hr hlocks dX3_wornNow_31 (by simp only [j_X3_wornNow, if_pos c_1, if_neg c_3])
    · skip
      refine lv_iconst (v := 2) hx hb dX3_wornNow_25 (by decide) ?_
      refine lv_goto (tgt := 30) hx hb dX3_wornNow_26 (by decide) ?_
      refine lv_iadd hx hb dX3_wornNow_30 ?_
      exact jr_iret hx hb hr hlocks dX3_wornNow_31 (by simp only [j_X3_wornNow, if_pos c_1, if_pos c_3])

abbrev rX3_isAmong : Room := { frames := 1, cells := 0, slots := 0, locals := 20 }
def j_X3_isAmong_6 (uheld : Nat → Int32) (x0 : Int32) (x1 : Int32) (x2 : Int32) : Nat → Nat → Int32 → Int32
  | 0, i, y4 => y4
  | n + 1, i, y4 => (if y4 = 0 then (if (x1 >>> ((nI i) &&& 31)) &&& 1 = 1 then (if j_X3_isMildew (uheld ((6 * x0) + (nI i)).toNatClampNeg) = 0 then (if x2 < 0 then j_X3_isAmong_6 uheld x0 x1 x2 n (i + 1) 1 else (if j_X3_provenance (uheld ((6 * x0) + (nI i)).toNatClampNeg) = x2 then j_X3_isAmong_6 uheld x0 x1 x2 n (i + 1) 1 else j_X3_isAmong_6 uheld x0 x1 x2 n (i + 1) 0)) else j_X3_isAmong_6 uheld x0 x1 x2 n (i + 1) 0) else j_X3_isAmong_6 uheld x0 x1 x2 n (i + 1) 0) else j_X3_isAmong_6 uheld x0 x1 x2 n (i + 1) 1)
def j_X3_isAmong (uheld : Nat → Int32) (x0 : Int32) (x1 : Int32) (x2 : Int32) : Int32 := j_X3_isAmong_6 uheld x0 x1 x2 6 0 0
theorem inX3_isAmong_X3 : ∀ w ∈ u_ws RX3 TX3 15, w ∈ wsX3_isAmong := by decide +kernel
set_option maxRecDepth 100000 in
set_option maxHeartbeats 4000000 in
theorem c_X3_isAmong {l : Launch} {D : va_G} (b0 : Nat) (bP : Nat) (bR : Nat) (bS : Nat) (bT : Nat) (bG : Nat) (bW : Nat) (bH : Nat) (bO : Nat) (cP : ClassId) (cR : ClassId) (cS : ClassId) (cT : ClassId) (cG : ClassId) (cW : ClassId) (cH : ClassId) (cO : ClassId) (uplace : Nat → Int32) (urow : Nat → Int32) (upts : Nat → Int32) (utks : Nat → Int32) (uglv : Nat → Int32) (uwin : Nat → Int32) (uheld : Nat → Int32) (utab : Nat → Int32) (udrawn : Int32) (udealt : Int32) (uon : Int32) (uturn : Int32) (uled : Int32) (utr : Int32) (uthr : Int32) (x0 : Int32) (x1 : Int32) (x2 : Int32) (ha : x0 = 0 ∨ x0 = 1) : jR l yX3_isAmong wsX3_isAmong rX3_isAmong D [.ref b0, .int x0, .int x1, .int x2] (jM b0 bP bR bS bT bG bW bH bO cP cR cS cT cG cW cH cO uplace urow upts utks uglv uwin uheld utab udrawn udealt uon uturn uled utr uthr) [(cP, .int), (cR, .int), (cS, .int), (cT, .int), (cG, .int), (cW, .int), (cH, .int), (cO, .int)] (.int (j_X3_isAmong uheld x0 x1 x2)) := by
  refine jR_of (cc := cX3_isAmong) (maxL := 7) (ret := (some .boolean)) (by decide) rfl (Nat.le_of_ble_eq_true rfl) ?_
  intro p e s m below meth c ls S hr hlocks hP hK hN hl
  obtain ⟨hx, hb, hml, hown, hts⟩ := id S
  have hl : lv_has ls 7 [(0, .ref b0), (1, .int x0), (2, .int x1), (3, .int x2)] := hl
  have loop6 : ∀ (n i : Nat) (y4 : Int32), i + n = 6 → (y4 = 0 ∨ y4 = 1) → j_X3_isAmong_6 uheld x0 x1 x2 n i y4 = (j_X3_isAmong uheld x0 x1 x2) → ∀ (ls : Array Slot), lv_has ls 7 [(5, .int (nI i)), (4, .int y4), (0, .ref b0), (1, .int x0), (2, .int x1), (3, .int x2)] → W p l e rX3_isAmong s m ([.ref b0, .int x0, .int x1, .int x2] : List Value).toArray below meth c s.heap [] 0 0 (MQ below (k2_QcV (.int (j_X3_isAmong uheld x0 x1 x2))) ([.ref b0, .int x0, .int x1, .int x2] : List Value).toArray s 0 0 (fun _ => False)) (F0 m 6 ls []) := by
    intro n
    induction n with
    | zero =>
      intro i y4 hin hz4 hv ls hl
      have hge : (6 : Int32) ≤ nI i := by rw [show i = 6 by omega]; decide
      have hgl : ¬ nI i < (6 : Int32) := by rw [show i = 6 by omega]; decide
      refine lv_iload hx hb dX3_isAmong_6 (lv_at hl 0 rfl) ?_
      refine lv_bipush (v := 6) hx hb dX3_isAmong_8 (by decide) ?_
      refine lv_icmp_ge (tgt := 76) hx hb dX3_isAmong_10 (by decide) (fun _ => ?_) (fun c_ => absurd hge c_)
      refine lv_iload hx hb dX3_isAmong_76 (lv_at hl 1 rfl) ?_
      exact jr_zret hx hb hr hlocks dX3_isAmong_78 (jx_nar hz4) (by rw [← hv]; simp only [j_X3_isAmong_6, if_pos hge, if_neg hgl])
    | succ n ih =>
      intro i y4 hin hz4 hv ls hl
      have hge : ¬ (6 : Int32) ≤ nI i := nI_ge (a := i) (b := 6) (by omega) (by decide)
      have hgl : nI i < (6 : Int32) := nI_lt (a := i) (b := 6) (by omega) (by decide)
      refine lv_iload hx hb dX3_isAmong_6 (lv_at hl 0 rfl) ?_
      refine lv_bipush (v := 6) hx hb dX3_isAmong_8 (by decide) ?_
      refine lv_icmp_ge (tgt := 76) hx hb dX3_isAmong_10 (by decide) (fun c_ => absurd c_ hge) (fun _ => ?_)
      refine lv_aload_n hx hb dX3_isAmong_13 rfl (lv_at hl 2 rfl) ?_
      refine va_get (D := D) (ci := 3) (v := .ref bH) (C := RX3) (T := TX3) (N := 15) hx hb hts inX3_isAmong_X3 hown hK hP 0 rfl rfl 13 (by decide) (hts (.fieldLink RX3 35 "ArchivistTricksModel" "held" "[I") (by decide +kernel)) (fun _ h9 => h9) rfl dX3_isAmong_14 ?_
      refine lv_bipush (v := 6) hx hb dX3_isAmong_17 (by decide) ?_
      refine lv_iload_n hx hb dX3_isAmong_19 rfl (lv_at hl 3 rfl) ?_
      refine lv_imul hx hb dX3_isAmong_20 ?_
      refine lv_iload hx hb dX3_isAmong_21 (lv_at hl 0 rfl) ?_
      refine lv_iadd hx hb dX3_isAmong_23 ?_
      refine va_iald hx hb hK hP 7 6 rfl rfl (i := (6 * x0) + (nI i)) (jx_held ha (by omega)) dX3_isAmong_24 ?_
      refine lv_istore (lv' := [(6, .int (uheld ((6 * x0) + (nI i)).toNatClampNeg)), (5, .int (nI i)), (4, .int y4), (0, .ref b0), (1, .int x0), (2, .int x1), (3, .int x2)]) hx hb dX3_isAmong_25 hl (by decide) rfl (fun ls hl => ?_)
      refine lv_iload hx hb dX3_isAmong_27 (lv_at hl 2 rfl) ?_
      refine lv_if_ne (tgt := 63) hx hb dX3_isAmong_29 (by decide) (fun c_6001 => ?_) (fun c_6001 => ?_)
      · skip
        refine lv_iconst (v := 1) hx hb dX3_isAmong_63 (by decide) ?_
        refine lv_goto (tgt := 68) hx hb dX3_isAmong_64 (by decide) ?_
        refine lv_istore (lv' := [(4, .int 1), (6, .int (uheld ((6 * x0) + (nI i)).toNatClampNeg)), (5, .int (nI i)), (0, .ref b0), (1, .int x0), (2, .int x1), (3, .int x2)]) hx hb dX3_isAmong_68 hl (by decide) rfl (fun ls hl => ?_)
        refine lv_iinc (v := nI (i + 1)) (lv' := [(5, .int (nI (i + 1))), (4, .int 1), (6, .int (uheld ((6 * x0) + (nI i)).toNatClampNeg)), (0, .ref b0), (1, .int x0), (2, .int x1), (3, .int x2)]) hx hb dX3_isAmong_70 hl (k := 2) rfl (nI_1 i) (by decide) rfl (fun ls hl => ?_)
        refine lv_goto (tgt := 6) hx hb dX3_isAmong_73 (by decide) ?_
        exact ih (i + 1) 1 (by omega) (by decide) (by rw [← hv]; simp only [j_X3_isAmong_6, if_neg hge, if_pos hgl, if_neg c_6001]) ls (lv_sub hl [0, 1, 3, 4, 5, 6] rfl)
      · skip
        refine lv_iload_n hx hb dX3_isAmong_32 rfl (lv_at hl 5 rfl) ?_
        refine lv_iload hx hb dX3_isAmong_33 (lv_at hl 1 rfl) ?_
        refine lv_ishr hx hb dX3_isAmong_35 ?_
        refine lv_iconst (v := 1) hx hb dX3_isAmong_36 (by decide) ?_
        refine lv_iand hx hb dX3_isAmong_37 ?_
        refine lv_iconst (v := 1) hx hb dX3_isAmong_38 (by decide) ?_
        refine lv_icmp_ne (tgt := 67) hx hb dX3_isAmong_39 (by decide) (fun c_6002 => ?_) (fun c_6002 => ?_)
        · skip
          refine lv_iconst (v := 0) hx hb dX3_isAmong_67 (by decide) ?_
          refine lv_istore (lv' := [(4, .int 0), (6, .int (uheld ((6 * x0) + (nI i)).toNatClampNeg)), (5, .int (nI i)), (0, .ref b0), (1, .int x0), (2, .int x1), (3, .int x2)]) hx hb dX3_isAmong_68 hl (by decide) rfl (fun ls hl => ?_)
          refine lv_iinc (v := nI (i + 1)) (lv' := [(5, .int (nI (i + 1))), (4, .int 0), (6, .int (uheld ((6 * x0) + (nI i)).toNatClampNeg)), (0, .ref b0), (1, .int x0), (2, .int x1), (3, .int x2)]) hx hb dX3_isAmong_70 hl (k := 2) rfl (nI_1 i) (by decide) rfl (fun ls hl => ?_)
          refine lv_goto (tgt := 6) hx hb dX3_isAmong_73 (by decide) ?_
          exact ih (i + 1) 0 (by omega) (by decide) (by rw [← hv]; simp only [j_X3_isAmong_6, if_neg hge, if_pos hgl, if_pos c_6001, if_neg c_6002]) ls (lv_sub hl [0, 1, 3, 4, 5, 6] rfl)
        · skip
          refine lv_iload hx hb dX3_isAmong_42 (lv_at hl 0 rfl) ?_
          refine jr_callS (n := 1) (As := [.int (uheld ((6 * x0) + (nI i)).toNatClampNeg)]) (rest := []) S (c_X3_isMildew (uheld ((6 * x0) + (nI i)).toNatClampNeg)) gX3_isAmong_X3_isMildew rfl (by decide +kernel) rfl ⟨⟨rfl, rfl⟩, ⟨Nat.le_of_ble_eq_true rfl, Nat.le_of_ble_eq_true rfl⟩, Nat.le_of_ble_eq_true rfl, Nat.le_of_ble_eq_true rfl⟩ hP hK hN [] [] rfl rfl (lv_nil hl) rfl (Nat.le_of_ble_eq_true rfl) dX3_isAmong_44 ?_
          refine lv_if_ne (tgt := 67) hx hb dX3_isAmong_47 (by decide) (fun c_6003 => ?_) (fun c_6003 => ?_)
          · skip
            refine lv_iconst (v := 0) hx hb dX3_isAmong_67 (by decide) ?_
            refine lv_istore (lv' := [(4, .int 0), (6, .int (uheld ((6 * x0) + (nI i)).toNatClampNeg)), (5, .int (nI i)), (0, .ref b0), (1, .int x0), (2, .int x1), (3, .int x2)]) hx hb dX3_isAmong_68 hl (by decide) rfl (fun ls hl => ?_)
            refine lv_iinc (v := nI (i + 1)) (lv' := [(5, .int (nI (i + 1))), (4, .int 0), (6, .int (uheld ((6 * x0) + (nI i)).toNatClampNeg)), (0, .ref b0), (1, .int x0), (2, .int x1), (3, .int x2)]) hx hb dX3_isAmong_70 hl (k := 2) rfl (nI_1 i) (by decide) rfl (fun ls hl => ?_)
            refine lv_goto (tgt := 6) hx hb dX3_isAmong_73 (by decide) ?_
            exact ih (i + 1) 0 (by omega) (by decide) (by rw [← hv]; simp only [j_X3_isAmong_6, if_neg hge, if_pos hgl, if_pos c_6001, if_pos c_6002, if_neg c_6003]) ls (lv_sub hl [0, 1, 3, 4, 5, 6] rfl)
          · skip
            refine lv_iload_n hx hb dX3_isAmong_50 rfl (lv_at hl 6 rfl) ?_
            refine lv_if_lt (tgt := 63) hx hb dX3_isAmong_51 (by decide) (fun c_6004 => ?_) (fun c_6004 => ?_)
            · skip
              refine lv_iconst (v := 1) hx hb dX3_isAmong_63 (by decide) ?_
              refine lv_goto (tgt := 68) hx hb dX3_isAmong_64 (by decide) ?_
              refine lv_istore (lv' := [(4, .int 1), (6, .int (uheld ((6 * x0) + (nI i)).toNatClampNeg)), (5, .int (nI i)), (0, .ref b0), (1, .int x0), (2, .int x1), (3, .int x2)]) hx hb dX3_isAmong_68 hl (by decide) rfl (fun ls hl => ?_)
              refine lv_iinc (v := nI (i + 1)) (lv' := [(5, .int (nI (i + 1))), (4, .int 1), (6, .int (uheld ((6 * x0) + (nI i)).toNatClampNeg)), (0, .ref b0), (1, .int x0), (2, .int x1), (3, .int x2)]) hx hb dX3_isAmong_70 hl (k := 2) rfl (nI_1 i) (by decide) rfl (fun ls hl => ?_)
              refine lv_goto (tgt := 6) hx hb dX3_isAmong_73 (by decide) ?_
              exact ih (i + 1) 1 (by omega) (by decide) (by rw [← hv]; simp only [j_X3_isAmong_6, if_neg hge, if_pos hgl, if_pos c_6001, if_pos c_6002, if_pos c_6003, if_pos c_6004]) ls (lv_sub hl [0, 1, 3, 4, 5, 6] rfl)
            · skip
              refine lv_iload hx hb dX3_isAmong_54 (lv_at hl 0 rfl) ?_
              refine jr_callS (n := 1) (As := [.int (uheld ((6 * x0) + (nI i)).toNatClampNeg)]) (rest := []) S (c_X3_provenance (uheld ((6 * x0) + (nI i)).toNatClampNeg)) gX3_isAmong_X3_provenance rfl (by decide +kernel) rfl ⟨⟨rfl, rfl⟩, ⟨Nat.le_of_ble_eq_true rfl, Nat.le_of_ble_eq_true rfl⟩, Nat.le_of_ble_eq_true rfl, Nat.le_of_ble_eq_true rfl⟩ hP hK hN [] [] rfl rfl (lv_nil hl) rfl (Nat.le_of_ble_eq_true rfl) dX3_isAmong_56 ?_
              refine lv_iload_n hx hb dX3_isAmong_59 rfl (lv_at hl 6 rfl) ?_
              refine lv_icmp_ne (tgt := 67) hx hb dX3_isAmong_60 (by decide) (fun c_6005 => ?_) (fun c_6005 => ?_)
              · skip
                refine lv_iconst (v := 0) hx hb dX3_isAmong_67 (by decide) ?_
                refine lv_istore (lv' := [(4, .int 0), (6, .int (uheld ((6 * x0) + (nI i)).toNatClampNeg)), (5, .int (nI i)), (0, .ref b0), (1, .int x0), (2, .int x1), (3, .int x2)]) hx hb dX3_isAmong_68 hl (by decide) rfl (fun ls hl => ?_)
                refine lv_iinc (v := nI (i + 1)) (lv' := [(5, .int (nI (i + 1))), (4, .int 0), (6, .int (uheld ((6 * x0) + (nI i)).toNatClampNeg)), (0, .ref b0), (1, .int x0), (2, .int x1), (3, .int x2)]) hx hb dX3_isAmong_70 hl (k := 2) rfl (nI_1 i) (by decide) rfl (fun ls hl => ?_)
                refine lv_goto (tgt := 6) hx hb dX3_isAmong_73 (by decide) ?_
                exact ih (i + 1) 0 (by omega) (by decide) (by rw [← hv]; simp only [j_X3_isAmong_6, if_neg hge, if_pos hgl, if_pos c_6001, if_pos c_6002, if_pos c_6003, if_neg c_6004, if_neg c_6005]) ls (lv_sub hl [0, 1, 3, 4, 5, 6] rfl)
              · skip
                refine lv_iconst (v := 1) hx hb dX3_isAmong_63 (by decide) ?_
                refine lv_goto (tgt := 68) hx hb dX3_isAmong_64 (by decide) ?_
                refine lv_istore (lv' := [(4, .int 1), (6, .int (uheld ((6 * x0) + (nI i)).toNatClampNeg)), (5, .int (nI i)), (0, .ref b0), (1, .int x0), (2, .int x1), (3, .int x2)]) hx hb dX3_isAmong_68 hl (by decide) rfl (fun ls hl => ?_)
                refine lv_iinc (v := nI (i + 1)) (lv' := [(5, .int (nI (i + 1))), (4, .int 1), (6, .int (uheld ((6 * x0) + (nI i)).toNatClampNeg)), (0, .ref b0), (1, .int x0), (2, .int x1), (3, .int x2)]) hx hb dX3_isAmong_70 hl (k := 2) rfl (nI_1 i) (by decide) rfl (fun ls hl => ?_)
                refine lv_goto (tgt := 6) hx hb dX3_isAmong_73 (by decide) ?_
                exact ih (i + 1) 1 (by omega) (by decide) (by rw [← hv]; simp only [j_X3_isAmong_6, if_neg hge, if_pos hgl, if_pos c_6001, if_pos c_6002, if_pos c_6003, if_neg c_6004, if_pos c_6005]) ls (lv_sub hl [0, 1, 3, 4, 5, 6] rfl)
  refine lv_iconst (v := 0) hx hb dX3_isAmong_0 (by decide) ?_
  refine lv_istore (lv' := [(4, .int 0), (0, .ref b0), (1, .int x0), (2, .int x1), (3, .int x2)]) hx hb dX3_isAmong_1 hl (by decide) rfl (fun ls hl => ?_)
  refine lv_iconst (v := 0) hx hb dX3_isAmong_3 (by decide) ?_
  refine lv_istore (lv' := [(5, .int 0), (4, .int 0), (0, .ref b0), (1, .int x0), (2, .int x1), (3, .int x2)]) hx hb dX3_isAmong_4 hl (by decide) rfl (fun ls hl => ?_)
  exact loop6 6 0 0 rfl (by decide) (by simp only [j_X3_isAmong]) ls (lv_sub (l' := [(5, .int (nI 0)), (4, .int 0), (0, .ref b0), (1, .int x0), (2, .int x1), (3, .int x2)]) hl [0, 1, 2, 3, 4, 5] rfl)

abbrev rX3_canLead : Room := { frames := 2, cells := 0, slots := 0, locals := 46 }
def j_X3_canLead (uheld : Nat → Int32) (x0 : Int32) (x1 : Int32) (x2 : Int32) : Int32 := (if j_X3_isMildew x2 = 0 then 1 else (if j_X3_isAmong uheld x0 x1 (-1) = 0 then 1 else 0))
set_option maxRecDepth 100000 in
set_option maxHeartbeats 4000000 in
theorem c_X3_canLead {l : Launch} {D : va_G} (b0 : Nat) (bP : Nat) (bR : Nat) (bS : Nat) (bT : Nat) (bG : Nat) (bW : Nat) (bH : Nat) (bO : Nat) (cP : ClassId) (cR : ClassId) (cS : ClassId) (cT : ClassId) (cG : ClassId) (cW : ClassId) (cH : ClassId) (cO : ClassId) (uplace : Nat → Int32) (urow : Nat → Int32) (upts : Nat → Int32) (utks : Nat → Int32) (uglv : Nat → Int32) (uwin : Nat → Int32) (uheld : Nat → Int32) (utab : Nat → Int32) (udrawn : Int32) (udealt : Int32) (uon : Int32) (uturn : Int32) (uled : Int32) (utr : Int32) (uthr : Int32) (x0 : Int32) (x1 : Int32) (x2 : Int32) (ha : x0 = 0 ∨ x0 = 1) : jR l yX3_canLead wsX3_canLead rX3_canLead D [.ref b0, .int x0, .int x1, .int x2] (jM b0 bP bR bS bT bG bW bH bO cP cR cS cT cG cW cH cO uplace urow upts utks uglv uwin uheld utab udrawn udealt uon uturn uled utr uthr) [(cP, .int), (cR, .int), (cS, .int), (cT, .int), (cG, .int), (cW, .int), (cH, .int), (cO, .int)] (.int (j_X3_canLead uheld x0 x1 x2)) := by
  refine jR_of (cc := cX3_canLead) (maxL := 4) (ret := (some .boolean)) (by decide) rfl (Nat.le_of_ble_eq_true rfl) ?_
  intro p e s m below meth c ls S hr hlocks hP hK hN hl
  obtain ⟨hx, hb, hml, hown, hts⟩ := id S
  have hl : lv_has ls 4 [(0, .ref b0), (1, .int x0), (2, .int x1), (3, .int x2)] := hl
  refine lv_iload_n hx hb dX3_canLead_0 rfl (lv_at hl 3 rfl) ?_
  refine jr_callS (n := 1) (As := [.int x2]) (rest := []) S (c_X3_isMildew x2) gX3_canLead_X3_isMildew rfl (by decide +kernel) rfl ⟨⟨rfl, rfl⟩, ⟨Nat.le_of_ble_eq_true rfl, Nat.le_of_ble_eq_true rfl⟩, Nat.le_of_ble_eq_true rfl, Nat.le_of_ble_eq_true rfl⟩ hP hK hN [] [] rfl rfl (lv_nil hl) rfl (Nat.le_of_ble_eq_true rfl) dX3_canLead_1 ?_
  refine lv_if_eq (tgt := 17) hx hb dX3_canLead_4 (by decide) (fun c_1 => ?_) (fun c_1 => ?_)
  · skip
    refine lv_iconst (v := 1) hx hb dX3_canLead_17 (by decide) ?_
    refine lv_goto (tgt := 22) hx hb dX3_canLead_18 (by decide) ?_
    exact jr_zret hx hb hr hlocks dX3_canLead_22 rfl (by simp only [j_X3_canLead, if_pos c_1])
  · skip
    refine lv_aload_n hx hb dX3_canLead_7 rfl (lv_at hl 0 rfl) ?_
    refine lv_iload_n hx hb dX3_canLead_8 rfl (lv_at hl 1 rfl) ?_
    refine lv_iload_n hx hb dX3_canLead_9 rfl (lv_at hl 2 rfl) ?_
    refine lv_iconst (v := (-1)) hx hb dX3_canLead_10 (by decide) ?_
    refine jr_callV (n := 3) (C := RX3) (As := [.int x0, .int x1, .int (-1)]) (rest := []) S (c_X3_isAmong b0 bP bR bS bT bG bW bH bO cP cR cS cT cG cW cH cO uplace urow upts utks uglv uwin uheld utab udrawn udealt uon uturn uled utr uthr x0 x1 (-1) ha) gX3_canLead_X3_isAmong rfl (by decide +kernel) rfl ⟨⟨rfl, rfl⟩, ⟨Nat.le_of_ble_eq_true rfl, Nat.le_of_ble_eq_true rfl⟩, Nat.le_of_ble_eq_true rfl, Nat.le_of_ble_eq_true rfl⟩ hP hK hN [0, 1, 2, 3, 4, 5, 6, 7, 8] [0, 1, 2, 3, 4, 5, 6, 7] rfl rfl 0 3 rfl rfl rfl (lv_nil hl) rfl (Nat.le_of_ble_eq_true rfl) dX3_canLead_11 ?_
    refine lv_if_ne (tgt := 21) hx hb dX3_canLead_14 (by decide) (fun c_2 => ?_) (fun c_2 => ?_)
    · skip
      refine lv_iconst (v := 0) hx hb dX3_canLead_21 (by decide) ?_
      exact jr_zret hx hb hr hlocks dX3_canLead_22 rfl (by simp only [j_X3_canLead, if_neg c_1, if_neg c_2])
    · skip
      refine lv_iconst (v := 1) hx hb dX3_canLead_17 (by decide) ?_
      refine lv_goto (tgt := 22) hx hb dX3_canLead_18 (by decide) ?_
      exact jr_zret hx hb hr hlocks dX3_canLead_22 rfl (by simp only [j_X3_canLead, if_neg c_1, if_pos c_2])

abbrev rX3_canFollow : Room := { frames := 2, cells := 0, slots := 0, locals := 46 }
def j_X3_canFollow (uheld : Nat → Int32) (utr : Int32) (x0 : Int32) (x1 : Int32) (x2 : Int32) (x3 : Int32) : Int32 := (if j_X3_isMildew x3 = 0 then (if j_X3_isAmong uheld x0 x1 (j_X3_provenance x3) = 0 then (if j_X3_isAmong uheld x0 x1 utr = 0 then 1 else (if j_X3_isTrump utr x2 = 0 then 0 else 1)) else (if j_X3_isMildew x2 = 0 then (if j_X3_provenance x2 = j_X3_provenance x3 then 1 else 0) else 0)) else 1)
theorem inX3_canFollow_X3 : ∀ w ∈ u_ws RX3 TX3 15, w ∈ wsX3_canFollow := by decide +kernel
set_option maxRecDepth 100000 in
set_option maxHeartbeats 4000000 in
theorem c_X3_canFollow {l : Launch} {D : va_G} (b0 : Nat) (bP : Nat) (bR : Nat) (bS : Nat) (bT : Nat) (bG : Nat) (bW : Nat) (bH : Nat) (bO : Nat) (cP : ClassId) (cR : ClassId) (cS : ClassId) (cT : ClassId) (cG : ClassId) (cW : ClassId) (cH : ClassId) (cO : ClassId) (uplace : Nat → Int32) (urow : Nat → Int32) (upts : Nat → Int32) (utks : Nat → Int32) (uglv : Nat → Int32) (uwin : Nat → Int32) (uheld : Nat → Int32) (utab : Nat → Int32) (udrawn : Int32) (udealt : Int32) (uon : Int32) (uturn : Int32) (uled : Int32) (utr : Int32) (uthr : Int32) (x0 : Int32) (x1 : Int32) (x2 : Int32) (x3 : Int32) (ha : x0 = 0 ∨ x0 = 1) : jR l yX3_canFollow wsX3_canFollow rX3_canFollow D [.ref b0, .int x0, .int x1, .int x2, .int x3] (jM b0 bP bR bS bT bG bW bH bO cP cR cS cT cG cW cH cO uplace urow upts utks uglv uwin uheld utab udrawn udealt uon uturn uled utr uthr) [(cP, .int), (cR, .int), (cS, .int), (cT, .int), (cG, .int), (cW, .int), (cH, .int), (cO, .int)] (.int (j_X3_canFollow uheld utr x0 x1 x2 x3)) := by
  refine jR_of (cc := cX3_canFollow) (maxL := 5) (ret := (some .boolean)) (by decide) rfl (Nat.le_of_ble_eq_true rfl) ?_
  intro p e s m below meth c ls S hr hlocks hP hK hN hl
  obtain ⟨hx, hb, hml, hown, hts⟩ := id S
  have hl : lv_has ls 5 [(0, .ref b0), (1, .int x0), (2, .int x1), (3, .int x2), (4, .int x3)] := hl
  refine lv_iload hx hb dX3_canFollow_0 (lv_at hl 4 rfl) ?_
  refine jr_callS (n := 1) (As := [.int x3]) (rest := []) S (c_X3_isMildew x3) gX3_canFollow_X3_isMildew rfl (by decide +kernel) rfl ⟨⟨rfl, rfl⟩, ⟨Nat.le_of_ble_eq_true rfl, Nat.le_of_ble_eq_true rfl⟩, Nat.le_of_ble_eq_true rfl, Nat.le_of_ble_eq_true rfl⟩ hP hK hN [] [] rfl rfl (lv_nil hl) rfl (Nat.le_of_ble_eq_true rfl) dX3_canFollow_2 ?_
  refine lv_if_eq (tgt := 10) hx hb dX3_canFollow_5 (by decide) (fun c_1 => ?_) (fun c_1 => ?_)
  · skip
    refine lv_aload_n hx hb dX3_canFollow_10 rfl (lv_at hl 0 rfl) ?_
    refine lv_iload_n hx hb dX3_canFollow_11 rfl (lv_at hl 1 rfl) ?_
    refine lv_iload_n hx hb dX3_canFollow_12 rfl (lv_at hl 2 rfl) ?_
    refine lv_iload hx hb dX3_canFollow_13 (lv_at hl 4 rfl) ?_
    refine jr_callS (n := 1) (As := [.int x3]) (rest := [.int x1, .int x0, .ref b0]) S (c_X3_provenance x3) gX3_canFollow_X3_provenance rfl (by decide +kernel) rfl ⟨⟨rfl, rfl⟩, ⟨Nat.le_of_ble_eq_true rfl, Nat.le_of_ble_eq_true rfl⟩, Nat.le_of_ble_eq_true rfl, Nat.le_of_ble_eq_true rfl⟩ hP hK hN [] [] rfl rfl (lv_nil hl) rfl (Nat.le_of_ble_eq_true rfl) dX3_canFollow_15 ?_
    refine jr_callV (n := 3) (C := RX3) (As := [.int x0, .int x1, .int (j_X3_provenance x3)]) (rest := []) S (c_X3_isAmong b0 bP bR bS bT bG bW bH bO cP cR cS cT cG cW cH cO uplace urow upts utks uglv uwin uheld utab udrawn udealt uon uturn uled utr uthr x0 x1 (j_X3_provenance x3) ha) gX3_canFollow_X3_isAmong rfl (by decide +kernel) rfl ⟨⟨rfl, rfl⟩, ⟨Nat.le_of_ble_eq_true rfl, Nat.le_of_ble_eq_true rfl⟩, Nat.le_of_ble_eq_true rfl, Nat.le_of_ble_eq_true rfl⟩ hP hK hN [0, 1, 2, 3, 4, 5, 6, 7, 8] [0, 1, 2, 3, 4, 5, 6, 7] rfl rfl 0 3 rfl rfl rfl (lv_nil hl) rfl (Nat.le_of_ble_eq_true rfl) dX3_canFollow_18 ?_
    refine lv_if_eq (tgt := 49) hx hb dX3_canFollow_21 (by decide) (fun c_2 => ?_) (fun c_2 => ?_)
    · skip
      refine lv_aload_n hx hb dX3_canFollow_49 rfl (lv_at hl 0 rfl) ?_
      refine lv_iload_n hx hb dX3_canFollow_50 rfl (lv_at hl 1 rfl) ?_
      refine lv_iload_n hx hb dX3_canFollow_51 rfl (lv_at hl 2 rfl) ?_
      refine lv_aload_n hx hb dX3_canFollow_52 rfl (lv_at hl 0 rfl) ?_
      refine va_get (D := D) (ci := 3) (v := .int utr) (C := RX3) (T := TX3) (N := 15) hx hb hts inX3_canFollow_X3 hown hK hP 0 rfl rfl 7 (by decide) (hts (.fieldLink RX3 20 "ArchivistTricksModel" "trumps" "I") (by decide +kernel)) (fun _ h9 => h9) rfl dX3_canFollow_53 ?_
      refine jr_callV (n := 3) (C := RX3) (As := [.int x0, .int x1, .int utr]) (rest := []) S (c_X3_isAmong b0 bP bR bS bT bG bW bH bO cP cR cS cT cG cW cH cO uplace urow upts utks uglv uwin uheld utab udrawn udealt uon uturn uled utr uthr x0 x1 utr ha) gX3_canFollow_X3_isAmong rfl (by decide +kernel) rfl ⟨⟨rfl, rfl⟩, ⟨Nat.le_of_ble_eq_true rfl, Nat.le_of_ble_eq_true rfl⟩, Nat.le_of_ble_eq_true rfl, Nat.le_of_ble_eq_true rfl⟩ hP hK hN [0, 1, 2, 3, 4, 5, 6, 7, 8] [0, 1, 2, 3, 4, 5, 6, 7] rfl rfl 0 3 rfl rfl rfl (lv_nil hl) rfl (Nat.le_of_ble_eq_true rfl) dX3_canFollow_56 ?_
      refine lv_if_eq (tgt := 70) hx hb dX3_canFollow_59 (by decide) (fun c_3 => ?_) (fun c_3 => ?_)
      · skip
        refine lv_iconst (v := 1) hx hb dX3_canFollow_70 (by decide) ?_
        refine lv_goto (tgt := 75) hx hb dX3_canFollow_71 (by decide) ?_
        exact jr_zret hx hb hr hlocks dX3_canFollow_75 rfl (by simp only [j_X3_canFollow, if_pos c_1, if_pos c_2, if_pos c_3])
      · skip
        refine lv_aload_n hx hb dX3_canFollow_62 rfl (lv_at hl 0 rfl) ?_
        refine lv_iload_n hx hb dX3_canFollow_63 rfl (lv_at hl 3 rfl) ?_
        refine jr_callV (n := 1) (C := RX3) (As := [.int x2]) (rest := []) S (c_X3_isTrump b0 bP bR bS bT bG bW bH bO cP cR cS cT cG cW cH cO uplace urow upts utks uglv uwin uheld utab udrawn udealt uon uturn uled utr uthr x2) gX3_canFollow_X3_isTrump rfl (by decide +kernel) rfl ⟨⟨rfl, rfl⟩, ⟨Nat.le_of_ble_eq_true rfl, Nat.le_of_ble_eq_true rfl⟩, Nat.le_of_ble_eq_true rfl, Nat.le_of_ble_eq_true rfl⟩ hP hK hN [0, 1, 2, 3, 4, 5, 6, 7, 8] [0, 1, 2, 3, 4, 5, 6, 7] rfl rfl 0 3 rfl rfl rfl (lv_nil hl) rfl (Nat.le_of_ble_eq_true rfl) dX3_canFollow_64 ?_
        refine lv_if_eq (tgt := 74) hx hb dX3_canFollow_67 (by decide) (fun c_4 => ?_) (fun c_4 => ?_)
        · skip
          refine lv_iconst (v := 0) hx hb dX3_canFollow_74 (by decide) ?_
          exact jr_zret hx hb hr hlocks dX3_canFollow_75 rfl (by simp only [j_X3_canFollow, if_pos c_1, if_pos c_2, if_neg c_3, if_pos c_4])
        · skip
          refine lv_iconst (v := 1) hx hb dX3_canFollow_70 (by decide) ?_
          refine lv_goto (tgt := 75) hx hb dX3_canFollow_71 (by decide) ?_
          exact jr_zret hx hb hr hlocks dX3_canFollow_75 rfl (by simp only [j_X3_canFollow, if_pos c_1, if_pos c_2, if_neg c_3, if_neg c_4])
    · skip
      refine lv_iload_n hx hb dX3_canFollow_24 rfl (lv_at hl 3 rfl) ?_
      refine jr_callS (n := 1) (As := [.int x2]) (rest := []) S (c_X3_isMildew x2) gX3_canFollow_X3_isMildew rfl (by decide +kernel) rfl ⟨⟨rfl, rfl⟩, ⟨Nat.le_of_ble_eq_true rfl, Nat.le_of_ble_eq_true rfl⟩, Nat.le_of_ble_eq_true rfl, Nat.le_of_ble_eq_true rfl⟩ hP hK hN [] [] rfl rfl (lv_nil hl) rfl (Nat.le_of_ble_eq_true rfl) dX3_canFollow_25 ?_
      refine lv_if_ne (tgt := 47) hx hb dX3_canFollow_28 (by decide) (fun c_5 => ?_) (fun c_5 => ?_)
      · skip
        refine lv_iconst (v := 0) hx hb dX3_canFollow_47 (by decide) ?_
        exact jr_zret hx hb hr hlocks dX3_canFollow_48 rfl (by simp only [j_X3_canFollow, if_pos c_1, if_neg c_2, if_neg c_5])
      · skip
        refine lv_iload_n hx hb dX3_canFollow_31 rfl (lv_at hl 3 rfl) ?_
        refine jr_callS (n := 1) (As := [.int x2]) (rest := []) S (c_X3_provenance x2) gX3_canFollow_X3_provenance rfl (by decide +kernel) rfl ⟨⟨rfl, rfl⟩, ⟨Nat.le_of_ble_eq_true rfl, Nat.le_of_ble_eq_true rfl⟩, Nat.le_of_ble_eq_true rfl, Nat.le_of_ble_eq_true rfl⟩ hP hK hN [] [] rfl rfl (lv_nil hl) rfl (Nat.le_of_ble_eq_true rfl) dX3_canFollow_32 ?_
        refine lv_iload hx hb dX3_canFollow_35 (lv_at hl 4 rfl) ?_
        refine jr_callS (n := 1) (As := [.int x3]) (rest := [.int (j_X3_provenance x2)]) S (c_X3_provenance x3) gX3_canFollow_X3_provenance rfl (by decide +kernel) rfl ⟨⟨rfl, rfl⟩, ⟨Nat.le_of_ble_eq_true rfl, Nat.le_of_ble_eq_true rfl⟩, Nat.le_of_ble_eq_true rfl, Nat.le_of_ble_eq_true rfl⟩ hP hK hN [] [] rfl rfl (lv_nil hl) rfl (Nat.le_of_ble_eq_true rfl) dX3_canFollow_37 ?_
        refine lv_icmp_ne (tgt := 47) hx hb dX3_canFollow_40 (by decide) (fun c_6 => ?_) (fun c_6 => ?_)
        · skip
          refine lv_iconst (v := 0) hx hb dX3_canFollow_47 (by decide) ?_
          exact jr_zret hx hb hr hlocks dX3_canFollow_48 rfl (by simp only [j_X3_canFollow, if_pos c_1, if_neg c_2, if_pos c_5, if_neg c_6])
        · skip
          refine lv_iconst (v := 1) hx hb dX3_canFollow_43 (by decide) ?_
          refine lv_goto (tgt := 48) hx hb dX3_canFollow_44 (by decide) ?_
          exact jr_zret hx hb hr hlocks dX3_canFollow_48 rfl (by simp only [j_X3_canFollow, if_pos c_1, if_neg c_2, if_pos c_5, if_pos c_6])
  · skip
    refine lv_iconst (v := 1) hx hb dX3_canFollow_8 (by decide) ?_
    exact jr_zret hx hb hr hlocks dX3_canFollow_9 rfl (by simp only [j_X3_canFollow, if_neg c_1])

abbrev rX3_tableAt : Room := { frames := 0, cells := 0, slots := 0, locals := 0 }
def j_X3_tableAt (utab : Nat → Int32) (x0 : Int32) (x1 : Int32) (x2 : Int32) : Int32 := (if x0 = 0 then utab ((4096 * x0) + ((64 * x1) + x2)).toNatClampNeg else utab ((4096 * x0) + ((64 * x2) + x1)).toNatClampNeg)
theorem inX3_tableAt_X3 : ∀ w ∈ u_ws RX3 TX3 15, w ∈ wsX3_tableAt := by decide +kernel
set_option maxRecDepth 100000 in
set_option maxHeartbeats 4000000 in
theorem c_X3_tableAt {l : Launch} {D : va_G} (b0 : Nat) (bP : Nat) (bR : Nat) (bS : Nat) (bT : Nat) (bG : Nat) (bW : Nat) (bH : Nat) (bO : Nat) (cP : ClassId) (cR : ClassId) (cS : ClassId) (cT : ClassId) (cG : ClassId) (cW : ClassId) (cH : ClassId) (cO : ClassId) (uplace : Nat → Int32) (urow : Nat → Int32) (upts : Nat → Int32) (utks : Nat → Int32) (uglv : Nat → Int32) (uwin : Nat → Int32) (uheld : Nat → Int32) (utab : Nat → Int32) (udrawn : Int32) (udealt : Int32) (uon : Int32) (uturn : Int32) (uled : Int32) (utr : Int32) (uthr : Int32) (x0 : Int32) (x1 : Int32) (x2 : Int32) (ha : x0 = 0 ∨ x0 = 1) (h1 : vp_in x1 64) (h2 : vp_in x2 64) : jR l yX3_tableAt wsX3_tableAt rX3_tableAt D [.ref b0, .int x0, .int x1, .int x2] (jM b0 bP bR bS bT bG bW bH bO cP cR cS cT cG cW cH cO uplace urow upts utks uglv uwin uheld utab udrawn udealt uon uturn uled utr uthr) [(cP, .int), (cR, .int), (cS, .int), (cT, .int), (cG, .int), (cW, .int), (cH, .int), (cO, .int)] (.int (j_X3_tableAt utab x0 x1 x2)) := by
  refine jR_of (cc := cX3_tableAt) (maxL := 4) (ret := (some .int)) (by decide) rfl (Nat.le_of_ble_eq_true rfl) ?_
  intro p e s m below meth c ls S hr hlocks hP hK hN hl
  obtain ⟨hx, hb, hml, hown, hts⟩ := id S
  have hl : lv_has ls 4 [(0, .ref b0), (1, .int x0), (2, .int x1), (3, .int x2)] := hl
  refine lv_aload_n hx hb dX3_tableAt_0 rfl (lv_at hl 0 rfl) ?_
  refine va_get (D := D) (ci := 3) (v := .ref bO) (C := RX3) (T := TX3) (N := 15) hx hb hts inX3_tableAt_X3 hown hK hP 0 rfl rfl 14 (by decide) (hts (.fieldLink RX3 38 "ArchivistTricksModel" "worthOf" "[I") (by decide +kernel)) (fun _ h9 => h9) rfl dX3_tableAt_1 ?_
  refine lv_sipush (v := 4096) hx hb dX3_tableAt_4 (by decide) ?_
  refine lv_iload_n hx hb dX3_tableAt_7 rfl (lv_at hl 1 rfl) ?_
  refine lv_imul hx hb dX3_tableAt_8 ?_
  refine lv_iload_n hx hb dX3_tableAt_9 rfl (lv_at hl 1 rfl) ?_
  refine lv_if_ne (tgt := 22) hx hb dX3_tableAt_10 (by decide) (fun c_1 => ?_) (fun c_1 => ?_)
  · skip
    refine lv_bipush (v := 64) hx hb dX3_tableAt_22 (by decide) ?_
    refine lv_iload_n hx hb dX3_tableAt_24 rfl (lv_at hl 3 rfl) ?_
    refine lv_imul hx hb dX3_tableAt_25 ?_
    refine lv_iload_n hx hb dX3_tableAt_26 rfl (lv_at hl 2 rfl) ?_
    refine lv_iadd hx hb dX3_tableAt_27 ?_
    refine lv_iadd hx hb dX3_tableAt_28 ?_
    refine va_iald hx hb hK hP 8 7 rfl rfl (i := (4096 * x0) + ((64 * x2) + x1)) (by first | exact jx_tab ha h1 h2 | exact jx_tab ha h2 h1) dX3_tableAt_29 ?_
    exact jr_iret hx hb hr hlocks dX3_tableAt_30 (by simp only [j_X3_tableAt, if_neg c_1])
  · skip
    refine lv_bipush (v := 64) hx hb dX3_tableAt_13 (by decide) ?_
    refine lv_iload_n hx hb dX3_tableAt_15 rfl (lv_at hl 2 rfl) ?_
    refine lv_imul hx hb dX3_tableAt_16 ?_
    refine lv_iload_n hx hb dX3_tableAt_17 rfl (lv_at hl 3 rfl) ?_
    refine lv_iadd hx hb dX3_tableAt_18 ?_
    refine lv_goto (tgt := 28) hx hb dX3_tableAt_19 (by decide) ?_
    refine lv_iadd hx hb dX3_tableAt_28 ?_
    refine va_iald hx hb hK hP 8 7 rfl rfl (i := (4096 * x0) + ((64 * x1) + x2)) (by first | exact jx_tab ha h1 h2 | exact jx_tab ha h2 h1) dX3_tableAt_29 ?_
    exact jr_iret hx hb hr hlocks dX3_tableAt_30 (by simp only [j_X3_tableAt, if_pos c_1])

abbrev rX3_behind : Room := { frames := 3, cells := 0, slots := 0, locals := 63 }
def j_X3_behind (utab : Nat → Int32) (utr : Int32) (x0 : Int32) (x1 : Int32) (x2 : Int32) (x3 : Int32) (x4 : Int32) (x5 : Int32) : Int32 := (if j_X3_takes utr x2 x1 = 0 then (if (x5 >>> (x0 &&& 31)) &&& 1 = 1 then ((j_X3_worthTo x1 1) + (j_X3_worthTo x2 1)) + (j_X3_tableAt utab x0 x3 x4) else ((j_X3_worthTo x1 0) + (j_X3_worthTo x2 0)) + (j_X3_tableAt utab x0 x3 x4)) else (if (x5 >>> ((1 - x0) &&& 31)) &&& 1 = 1 then (-((j_X3_worthTo x1 1) + (j_X3_worthTo x2 1))) - (j_X3_tableAt utab (1 - x0) x4 x3) else (-((j_X3_worthTo x1 0) + (j_X3_worthTo x2 0))) - (j_X3_tableAt utab (1 - x0) x4 x3)))
set_option maxRecDepth 100000 in
set_option maxHeartbeats 4000000 in
theorem c_X3_behind {l : Launch} {D : va_G} (b0 : Nat) (bP : Nat) (bR : Nat) (bS : Nat) (bT : Nat) (bG : Nat) (bW : Nat) (bH : Nat) (bO : Nat) (cP : ClassId) (cR : ClassId) (cS : ClassId) (cT : ClassId) (cG : ClassId) (cW : ClassId) (cH : ClassId) (cO : ClassId) (uplace : Nat → Int32) (urow : Nat → Int32) (upts : Nat → Int32) (utks : Nat → Int32) (uglv : Nat → Int32) (uwin : Nat → Int32) (uheld : Nat → Int32) (utab : Nat → Int32) (udrawn : Int32) (udealt : Int32) (uon : Int32) (uturn : Int32) (uled : Int32) (utr : Int32) (uthr : Int32) (x0 : Int32) (x1 : Int32) (x2 : Int32) (x3 : Int32) (x4 : Int32) (x5 : Int32) (ha : x0 = 0 ∨ x0 = 1) (hm : vp_in x3 64) (ho : vp_in x4 64) : jR l yX3_behind wsX3_behind rX3_behind D [.ref b0, .int x0, .int x1, .int x2, .int x3, .int x4, .int x5] (jM b0 bP bR bS bT bG bW bH bO cP cR cS cT cG cW cH cO uplace urow upts utks uglv uwin uheld utab udrawn udealt uon uturn uled utr uthr) [(cP, .int), (cR, .int), (cS, .int), (cT, .int), (cG, .int), (cW, .int), (cH, .int), (cO, .int)] (.int (j_X3_behind utab utr x0 x1 x2 x3 x4 x5)) := by
  refine jR_of (cc := cX3_behind) (maxL := 11) (ret := (some .int)) (by decide) rfl (Nat.le_of_ble_eq_true rfl) ?_
  intro p e s m below meth c ls S hr hlocks hP hK hN hl
  obtain ⟨hx, hb, hml, hown, hts⟩ := id S
  have hl : lv_has ls 11 [(0, .ref b0), (1, .int x0), (2, .int x1), (3, .int x2), (4, .int x3), (5, .int x4), (6, .int x5)] := hl
  refine lv_aload_n hx hb dX3_behind_0 rfl (lv_at hl 0 rfl) ?_
  refine lv_iload_n hx hb dX3_behind_1 rfl (lv_at hl 3 rfl) ?_
  refine lv_iload_n hx hb dX3_behind_2 rfl (lv_at hl 2 rfl) ?_
  refine jr_callV (n := 2) (C := RX3) (As := [.int x2, .int x1]) (rest := []) S (c_X3_takes b0 bP bR bS bT bG bW bH bO cP cR cS cT cG cW cH cO uplace urow upts utks uglv uwin uheld utab udrawn udealt uon uturn uled utr uthr x2 x1) gX3_behind_X3_takes rfl (by decide +kernel) rfl ⟨⟨rfl, rfl⟩, ⟨Nat.le_of_ble_eq_true rfl, Nat.le_of_ble_eq_true rfl⟩, Nat.le_of_ble_eq_true rfl, Nat.le_of_ble_eq_true rfl⟩ hP hK hN [0, 1, 2, 3, 4, 5, 6, 7, 8] [0, 1, 2, 3, 4, 5, 6, 7] rfl rfl 0 3 rfl rfl rfl (lv_nil hl) rfl (Nat.le_of_ble_eq_true rfl) dX3_behind_3 ?_
  refine lv_istore (lv' := [(7, .int (j_X3_takes utr x2 x1)), (0, .ref b0), (1, .int x0), (2, .int x1), (3, .int x2), (4, .int x3), (5, .int x4), (6, .int x5)]) hx hb dX3_behind_6 hl (by decide) rfl (fun ls hl => ?_)
  refine lv_iload hx hb dX3_behind_8 (lv_at hl 0 rfl) ?_
  refine lv_if_eq (tgt := 19) hx hb dX3_behind_10 (by decide) (fun c_1 => ?_) (fun c_1 => ?_)
  · skip
    refine lv_iload_n hx hb dX3_behind_19 rfl (lv_at hl 2 rfl) ?_
    refine lv_istore (lv' := [(8, .int x0), (7, .int (j_X3_takes utr x2 x1)), (0, .ref b0), (1, .int x0), (2, .int x1), (3, .int x2), (4, .int x3), (5, .int x4), (6, .int x5)]) hx hb dX3_behind_20 hl (by decide) rfl (fun ls hl => ?_)
    refine lv_iload hx hb dX3_behind_22 (lv_at hl 8 rfl) ?_
    refine lv_iload hx hb dX3_behind_24 (lv_at hl 0 rfl) ?_
    refine lv_ishr hx hb dX3_behind_26 ?_
    refine lv_iconst (v := 1) hx hb dX3_behind_27 (by decide) ?_
    refine lv_iand hx hb dX3_behind_28 ?_
    refine lv_iconst (v := 1) hx hb dX3_behind_29 (by decide) ?_
    refine lv_icmp_ne (tgt := 37) hx hb dX3_behind_30 (by decide) (fun c_2 => ?_) (fun c_2 => ?_)
    · skip
      refine lv_iconst (v := 0) hx hb dX3_behind_37 (by decide) ?_
      refine lv_istore (lv' := [(9, .int 0), (8, .int x0), (7, .int (j_X3_takes utr x2 x1)), (0, .ref b0), (1, .int x0), (2, .int x1), (3, .int x2), (4, .int x3), (5, .int x4), (6, .int x5)]) hx hb dX3_behind_38 hl (by decide) rfl (fun ls hl => ?_)
      refine lv_iload_n hx hb dX3_behind_40 rfl (lv_at hl 5 rfl) ?_
      refine lv_iload hx hb dX3_behind_41 (lv_at hl 0 rfl) ?_
      refine jr_callS (n := 2) (As := [.int x1, .int 0]) (rest := []) S (c_X3_worthTo x1 0) gX3_behind_X3_worthTo rfl (by decide +kernel) rfl ⟨⟨rfl, rfl⟩, ⟨Nat.le_of_ble_eq_true rfl, Nat.le_of_ble_eq_true rfl⟩, Nat.le_of_ble_eq_true rfl, Nat.le_of_ble_eq_true rfl⟩ hP hK hN [] [] rfl rfl (lv_nil hl) rfl (Nat.le_of_ble_eq_true rfl) dX3_behind_43 ?_
      refine lv_iload_n hx hb dX3_behind_46 rfl (lv_at hl 6 rfl) ?_
      refine lv_iload hx hb dX3_behind_47 (lv_at hl 0 rfl) ?_
      refine jr_callS (n := 2) (As := [.int x2, .int 0]) (rest := [.int (j_X3_worthTo x1 0)]) S (c_X3_worthTo x2 0) gX3_behind_X3_worthTo rfl (by decide +kernel) rfl ⟨⟨rfl, rfl⟩, ⟨Nat.le_of_ble_eq_true rfl, Nat.le_of_ble_eq_true rfl⟩, Nat.le_of_ble_eq_true rfl, Nat.le_of_ble_eq_true rfl⟩ hP hK hN [] [] rfl rfl (lv_nil hl) rfl (Nat.le_of_ble_eq_true rfl) dX3_behind_49 ?_
      refine lv_iadd hx hb dX3_behind_52 ?_
      refine lv_istore (lv' := [(10, .int ((j_X3_worthTo x1 0) + (j_X3_worthTo x2 0))), (9, .int 0), (8, .int x0), (7, .int (j_X3_takes utr x2 x1)), (0, .ref b0), (1, .int x0), (2, .int x1), (3, .int x2), (4, .int x3), (5, .int x4), (6, .int x5)]) hx hb dX3_behind_53 hl (by decide) rfl (fun ls hl => ?_)
      refine lv_iload hx hb dX3_behind_55 (lv_at hl 3 rfl) ?_
      refine lv_if_eq (tgt := 78) hx hb dX3_behind_57 (by decide) (fun _ => ?_) (fun c_ => absurd c_1 c_)
      refine lv_iload hx hb dX3_behind_78 (lv_at hl 0 rfl) ?_
      refine lv_aload_n hx hb dX3_behind_80 rfl (lv_at hl 4 rfl) ?_
      refine lv_iload_n hx hb dX3_behind_81 rfl (lv_at hl 5 rfl) ?_
      refine lv_iload hx hb dX3_behind_82 (lv_at hl 8 rfl) ?_
      refine lv_iload hx hb dX3_behind_84 (lv_at hl 9 rfl) ?_
      refine jr_callV (n := 3) (C := RX3) (As := [.int x0, .int x3, .int x4]) (rest := [.int ((j_X3_worthTo x1 0) + (j_X3_worthTo x2 0))]) S (c_X3_tableAt b0 bP bR bS bT bG bW bH bO cP cR cS cT cG cW cH cO uplace urow upts utks uglv uwin uheld utab udrawn udealt uon uturn uled utr uthr x0 x3 x4 ha hm ho) gX3_behind_X3_tableAt rfl (by decide +kernel) rfl ⟨⟨rfl, rfl⟩, ⟨Nat.le_of_ble_eq_true rfl, Nat.le_of_ble_eq_true rfl⟩, Nat.le_of_ble_eq_true rfl, Nat.le_of_ble_eq_true rfl⟩ hP hK hN [0, 1, 2, 3, 4, 5, 6, 7, 8] [0, 1, 2, 3, 4, 5, 6, 7] rfl rfl 0 3 rfl rfl rfl (lv_nil hl) rfl (Nat.le_of_ble_eq_true rfl) dX3_behind_86 ?_
      refine lv_iadd hx hb dX3_behind_89 ?_
      exact jr_iret hx hb hr hlocks dX3_behind_90 (by simp only [j_X3_behind, if_pos c_1, if_neg c_2])
    · skip
      refine lv_iconst (v := 1) hx hb dX3_behind_33 (by decide) ?_
      refine lv_goto (tgt := 38) hx hb dX3_behind_34 (by decide) ?_
      refine lv_istore (lv' := [(9, .int 1), (8, .int x0), (7, .int (j_X3_takes utr x2 x1)), (0, .ref b0), (1, .int x0), (2, .int x1), (3, .int x2), (4, .int x3), (5, .int x4), (6, .int x5)]) hx hb dX3_behind_38 hl (by decide) rfl (fun ls hl => ?_)
      refine lv_iload_n hx hb dX3_behind_40 rfl (lv_at hl 5 rfl) ?_
      refine lv_iload hx hb dX3_behind_41 (lv_at hl 0 rfl) ?_
      refine jr_callS (n := 2) (As := [.int x1, .int 1]) (rest := []) S (c_X3_worthTo x1 1) gX3_behind_X3_worthTo rfl (by decide +kernel) rfl ⟨⟨rfl, rfl⟩, ⟨Nat.le_of_ble_eq_true rfl, Nat.le_of_ble_eq_true rfl⟩, Nat.le_of_ble_eq_true rfl, Nat.le_of_ble_eq_true rfl⟩ hP hK hN [] [] rfl rfl (lv_nil hl) rfl (Nat.le_of_ble_eq_true rfl) dX3_behind_43 ?_
      refine lv_iload_n hx hb dX3_behind_46 rfl (lv_at hl 6 rfl) ?_
      refine lv_iload hx hb dX3_behind_47 (lv_at hl 0 rfl) ?_
      refine jr_callS (n := 2) (As := [.int x2, .int 1]) (rest := [.int (j_X3_worthTo x1 1)]) S (c_X3_worthTo x2 1) gX3_behind_X3_worthTo rfl (by decide +kernel) rfl ⟨⟨rfl, rfl⟩, ⟨Nat.le_of_ble_eq_true rfl, Nat.le_of_ble_eq_true rfl⟩, Nat.le_of_ble_eq_true rfl, Nat.le_of_ble_eq_true rfl⟩ hP hK hN [] [] rfl rfl (lv_nil hl) rfl (Nat.le_of_ble_eq_true rfl) dX3_behind_49 ?_
      refine lv_iadd hx hb dX3_behind_52 ?_
      refine lv_istore (lv' := [(10, .int ((j_X3_worthTo x1 1) + (j_X3_worthTo x2 1))), (9, .int 1), (8, .int x0), (7, .int (j_X3_takes utr x2 x1)), (0, .ref b0), (1, .int x0), (2, .int x1), (3, .int x2), (4, .int x3), (5, .int x4), (6, .int x5)]) hx hb dX3_behind_53 hl (by decide) rfl (fun ls hl => ?_)
      refine lv_iload hx hb dX3_behind_55 (lv_at hl 3 rfl) ?_
      refine lv_if_eq (tgt := 78) hx hb dX3_behind_57 (by decide) (fun _ => ?_) (fun c_ => absurd c_1 c_)
      refine lv_iload hx hb dX3_behind_78 (lv_at hl 0 rfl) ?_
      refine lv_aload_n hx hb dX3_behind_80 rfl (lv_at hl 4 rfl) ?_
      refine lv_iload_n hx hb dX3_behind_81 rfl (lv_at hl 5 rfl) ?_
      refine lv_iload hx hb dX3_behind_82 (lv_at hl 8 rfl) ?_
      refine lv_iload hx hb dX3_behind_84 (lv_at hl 9 rfl) ?_
      refine jr_callV (n := 3) (C := RX3) (As := [.int x0, .int x3, .int x4]) (rest := [.int ((j_X3_worthTo x1 1) + (j_X3_worthTo x2 1))]) S (c_X3_tableAt b0 bP bR bS bT bG bW bH bO cP cR cS cT cG cW cH cO uplace urow upts utks uglv uwin uheld utab udrawn udealt uon uturn uled utr uthr x0 x3 x4 ha hm ho) gX3_behind_X3_tableAt rfl (by decide +kernel) rfl ⟨⟨rfl, rfl⟩, ⟨Nat.le_of_ble_eq_true rfl, Nat.le_of_ble_eq_true rfl⟩, Nat.le_of_ble_eq_true rfl, Nat.le_of_ble_eq_true rfl⟩ hP hK hN [0, 1, 2, 3, 4, 5, 6, 7, 8] [0, 1, 2, 3, 4, 5, 6, 7] rfl rfl 0 3 rfl rfl rfl (lv_nil hl) rfl (Nat.le_of_ble_eq_true rfl) dX3_behind_86 ?_
      refine lv_iadd hx hb dX3_behind_89 ?_
      exact jr_iret hx hb hr hlocks dX3_behind_90 (by simp only [j_X3_behind, if_pos c_1, if_pos c_2])
  · skip
    refine lv_iconst (v := 1) hx hb dX3_behind_13 (by decide) ?_
    refine lv_iload_n hx hb dX3_behind_14 rfl (lv_at hl 2 rfl) ?_
    refine lv_isub hx hb dX3_behind_15 ?_
    refine lv_goto (tgt := 20) hx hb dX3_behind_16 (by decide) ?_
    refine lv_istore (lv' := [(8, .int (1 - x0)), (7, .int (j_X3_takes utr x2 x1)), (0, .ref b0), (1, .int x0), (2, .int x1), (3, .int x2), (4, .int x3), (5, .int x4), (6, .int x5)]) hx hb dX3_behind_20 hl (by decide) rfl (fun ls hl => ?_)
    refine lv_iload hx hb dX3_behind_22 (lv_at hl 8 rfl) ?_
    refine lv_iload hx hb dX3_behind_24 (lv_at hl 0 rfl) ?_
    refine lv_ishr hx hb dX3_behind_26 ?_
    refine lv_iconst (v := 1) hx hb dX3_behind_27 (by decide) ?_
    refine lv_iand hx hb dX3_behind_28 ?_
    refine lv_iconst (v := 1) hx hb dX3_behind_29 (by decide) ?_
    refine lv_icmp_ne (tgt := 37) hx hb dX3_behind_30 (by decide) (fun c_3 => ?_) (fun c_3 => ?_)
    · skip
      refine lv_iconst (v := 0) hx hb dX3_behind_37 (by decide) ?_
      refine lv_istore (lv' := [(9, .int 0), (8, .int (1 - x0)), (7, .int (j_X3_takes utr x2 x1)), (0, .ref b0), (1, .int x0), (2, .int x1), (3, .int x2), (4, .int x3), (5, .int x4), (6, .int x5)]) hx hb dX3_behind_38 hl (by decide) rfl (fun ls hl => ?_)
      refine lv_iload_n hx hb dX3_behind_40 rfl (lv_at hl 5 rfl) ?_
      refine lv_iload hx hb dX3_behind_41 (lv_at hl 0 rfl) ?_
      refine jr_callS (n := 2) (As := [.int x1, .int 0]) (rest := []) S (c_X3_worthTo x1 0) gX3_behind_X3_worthTo rfl (by decide +kernel) rfl ⟨⟨rfl, rfl⟩, ⟨Nat.le_of_ble_eq_true rfl, Nat.le_of_ble_eq_true rfl⟩, Nat.le_of_ble_eq_true rfl, Nat.le_of_ble_eq_true rfl⟩ hP hK hN [] [] rfl rfl (lv_nil hl) rfl (Nat.le_of_ble_eq_true rfl) dX3_behind_43 ?_
      refine lv_iload_n hx hb dX3_behind_46 rfl (lv_at hl 6 rfl) ?_
      refine lv_iload hx hb dX3_behind_47 (lv_at hl 0 rfl) ?_
      refine jr_callS (n := 2) (As := [.int x2, .int 0]) (rest := [.int (j_X3_worthTo x1 0)]) S (c_X3_worthTo x2 0) gX3_behind_X3_worthTo rfl (by decide +kernel) rfl ⟨⟨rfl, rfl⟩, ⟨Nat.le_of_ble_eq_true rfl, Nat.le_of_ble_eq_true rfl⟩, Nat.le_of_ble_eq_true rfl, Nat.le_of_ble_eq_true rfl⟩ hP hK hN [] [] rfl rfl (lv_nil hl) rfl (Nat.le_of_ble_eq_true rfl) dX3_behind_49 ?_
      refine lv_iadd hx hb dX3_behind_52 ?_
      refine lv_istore (lv' := [(10, .int ((j_X3_worthTo x1 0) + (j_X3_worthTo x2 0))), (9, .int 0), (8, .int (1 - x0)), (7, .int (j_X3_takes utr x2 x1)), (0, .ref b0), (1, .int x0), (2, .int x1), (3, .int x2), (4, .int x3), (5, .int x4), (6, .int x5)]) hx hb dX3_behind_53 hl (by decide) rfl (fun ls hl => ?_)
      refine lv_iload hx hb dX3_behind_55 (lv_at hl 3 rfl) ?_
      refine lv_if_eq (tgt := 78) hx hb dX3_behind_57 (by decide) (fun c_ => absurd c_ c_1) (fun _ => ?_)
      refine lv_iload hx hb dX3_behind_60 (lv_at hl 0 rfl) ?_
      refine lv_ineg hx hb dX3_behind_62 ?_
      refine lv_aload_n hx hb dX3_behind_63 rfl (lv_at hl 4 rfl) ?_
      refine lv_iconst (v := 1) hx hb dX3_behind_64 (by decide) ?_
      refine lv_iload_n hx hb dX3_behind_65 rfl (lv_at hl 5 rfl) ?_
      refine lv_isub hx hb dX3_behind_66 ?_
      refine lv_iload hx hb dX3_behind_67 (lv_at hl 9 rfl) ?_
      refine lv_iload hx hb dX3_behind_69 (lv_at hl 8 rfl) ?_
      refine jr_callV (n := 3) (C := RX3) (As := [.int (1 - x0), .int x4, .int x3]) (rest := [.int (-((j_X3_worthTo x1 0) + (j_X3_worthTo x2 0)))]) S (c_X3_tableAt b0 bP bR bS bT bG bW bH bO cP cR cS cT cG cW cH cO uplace urow upts utks uglv uwin uheld utab udrawn udealt uon uturn uled utr uthr (1 - x0) x4 x3 (jx_flip ha) ho hm) gX3_behind_X3_tableAt rfl (by decide +kernel) rfl ⟨⟨rfl, rfl⟩, ⟨Nat.le_of_ble_eq_true rfl, Nat.le_of_ble_eq_true rfl⟩, Nat.le_of_ble_eq_true rfl, Nat.le_of_ble_eq_true rfl⟩ hP hK hN [0, 1, 2, 3, 4, 5, 6, 7, 8] [0, 1, 2, 3, 4, 5, 6, 7] rfl rfl 0 3 rfl rfl rfl (lv_nil hl) rfl (Nat.le_of_ble_eq_true rfl) dX3_behind_71 ?_
      refine lv_isub hx hb dX3_behind_74 ?_
      refine lv_goto (tgt := 90) hx hb dX3_behind_75 (by decide) ?_
      exact jr_iret hx hb hr hlocks dX3_behind_90 (by simp only [j_X3_behind, if_neg c_1, if_neg c_3])
    · skip
      refine lv_iconst (v := 1) hx hb dX3_behind_33 (by decide) ?_
      refine lv_goto (tgt := 38) hx hb dX3_behind_34 (by decide) ?_
      refine lv_istore (lv' := [(9, .int 1), (8, .int (1 - x0)), (7, .int (j_X3_takes utr x2 x1)), (0, .ref b0), (1, .int x0), (2, .int x1), (3, .int x2), (4, .int x3), (5, .int x4), (6, .int x5)]) hx hb dX3_behind_38 hl (by decide) rfl (fun ls hl => ?_)
      refine lv_iload_n hx hb dX3_behind_40 rfl (lv_at hl 5 rfl) ?_
      refine lv_iload hx hb dX3_behind_41 (lv_at hl 0 rfl) ?_
      refine jr_callS (n := 2) (As := [.int x1, .int 1]) (rest := []) S (c_X3_worthTo x1 1) gX3_behind_X3_worthTo rfl (by decide +kernel) rfl ⟨⟨rfl, rfl⟩, ⟨Nat.le_of_ble_eq_true rfl, Nat.le_of_ble_eq_true rfl⟩, Nat.le_of_ble_eq_true rfl, Nat.le_of_ble_eq_true rfl⟩ hP hK hN [] [] rfl rfl (lv_nil hl) rfl (Nat.le_of_ble_eq_true rfl) dX3_behind_43 ?_
      refine lv_iload_n hx hb dX3_behind_46 rfl (lv_at hl 6 rfl) ?_
      refine lv_iload hx hb dX3_behind_47 (lv_at hl 0 rfl) ?_
      refine jr_callS (n := 2) (As := [.int x2, .int 1]) (rest := [.int (j_X3_worthTo x1 1)]) S (c_X3_worthTo x2 1) gX3_behind_X3_worthTo rfl (by decide +kernel) rfl ⟨⟨rfl, rfl⟩, ⟨Nat.le_of_ble_eq_true rfl, Nat.le_of_ble_eq_true rfl⟩, Nat.le_of_ble_eq_true rfl, Nat.le_of_ble_eq_true rfl⟩ hP hK hN [] [] rfl rfl (lv_nil hl) rfl (Nat.le_of_ble_eq_true rfl) dX3_behind_49 ?_
      refine lv_iadd hx hb dX3_behind_52 ?_
      refine lv_istore (lv' := [(10, .int ((j_X3_worthTo x1 1) + (j_X3_worthTo x2 1))), (9, .int 1), (8, .int (1 - x0)), (7, .int (j_X3_takes utr x2 x1)), (0, .ref b0), (1, .int x0), (2, .int x1), (3, .int x2), (4, .int x3), (5, .int x4), (6, .int x5)]) hx hb dX3_behind_53 hl (by decide) rfl (fun ls hl => ?_)
      refine lv_iload hx hb dX3_behind_55 (lv_at hl 3 rfl) ?_
      refine lv_if_eq (tgt := 78) hx hb dX3_behind_57 (by decide) (fun c_ => absurd c_ c_1) (fun _ => ?_)
      refine lv_iload hx hb dX3_behind_60 (lv_at hl 0 rfl) ?_
      refine lv_ineg hx hb dX3_behind_62 ?_
      refine lv_aload_n hx hb dX3_behind_63 rfl (lv_at hl 4 rfl) ?_
      refine lv_iconst (v := 1) hx hb dX3_behind_64 (by decide) ?_
      refine lv_iload_n hx hb dX3_behind_65 rfl (lv_at hl 5 rfl) ?_
      refine lv_isub hx hb dX3_behind_66 ?_
      refine lv_iload hx hb dX3_behind_67 (lv_at hl 9 rfl) ?_
      refine lv_iload hx hb dX3_behind_69 (lv_at hl 8 rfl) ?_
      refine jr_callV (n := 3) (C := RX3) (As := [.int (1 - x0), .int x4, .int x3]) (rest := [.int (-((j_X3_worthTo x1 1) + (j_X3_worthTo x2 1)))]) S (c_X3_tableAt b0 bP bR bS bT bG bW bH bO cP cR cS cT cG cW cH cO uplace urow upts utks uglv uwin uheld utab udrawn udealt uon uturn uled utr uthr (1 - x0) x4 x3 (jx_flip ha) ho hm) gX3_behind_X3_tableAt rfl (by decide +kernel) rfl ⟨⟨rfl, rfl⟩, ⟨Nat.le_of_ble_eq_true rfl, Nat.le_of_ble_eq_true rfl⟩, Nat.le_of_ble_eq_true rfl, Nat.le_of_ble_eq_true rfl⟩ hP hK hN [0, 1, 2, 3, 4, 5, 6, 7, 8] [0, 1, 2, 3, 4, 5, 6, 7] rfl rfl 0 3 rfl rfl rfl (lv_nil hl) rfl (Nat.le_of_ble_eq_true rfl) dX3_behind_71 ?_
      refine lv_isub hx hb dX3_behind_74 ?_
      refine lv_goto (tgt := 90) hx hb dX3_behind_75 (by decide) ?_
      exact jr_iret hx hb hr hlocks dX3_behind_90 (by simp only [j_X3_behind, if_neg c_1, if_pos c_3])

abbrev rX3_leastBy : Room := { frames := 4, cells := 0, slots := 0, locals := 93 }
def j_X3_leastBy_22 (uheld : Nat → Int32) (utab : Nat → Int32) (utr : Int32) (x0 : Int32) (x1 : Int32) (x2 : Int32) (x3 : Int32) (x4 : Int32) : Nat → Nat → Int32 → Int32 → Int32
  | 0, i, y6, y7 => y7
  | n + 1, i, y6, y7 => (if (x2 >>> ((nI i) &&& 31)) &&& 1 = 1 then (if j_X3_canFollow uheld utr (1 - x0) x2 (uheld ((6 * (1 - x0)) + (nI i)).toNatClampNeg) y6 = 0 then j_X3_leastBy_22 uheld utab utr x0 x1 x2 x3 x4 n (i + 1) y6 y7 else (if y7 ≤ j_X3_behind utab utr x0 y6 (uheld ((6 * (1 - x0)) + (nI i)).toNatClampNeg) (x1 &&& (((1 : Int32) <<< (x3 &&& 31)) ^^^ (-1))) (x2 &&& (((1 : Int32) <<< ((nI i) &&& 31)) ^^^ (-1))) x4 then j_X3_leastBy_22 uheld utab utr x0 x1 x2 x3 x4 n (i + 1) y6 y7 else j_X3_leastBy_22 uheld utab utr x0 x1 x2 x3 x4 n (i + 1) y6 (j_X3_behind utab utr x0 y6 (uheld ((6 * (1 - x0)) + (nI i)).toNatClampNeg) (x1 &&& (((1 : Int32) <<< (x3 &&& 31)) ^^^ (-1))) (x2 &&& (((1 : Int32) <<< ((nI i) &&& 31)) ^^^ (-1))) x4))) else j_X3_leastBy_22 uheld utab utr x0 x1 x2 x3 x4 n (i + 1) y6 y7)
def j_X3_leastBy (uheld : Nat → Int32) (utab : Nat → Int32) (utr : Int32) (x0 : Int32) (x1 : Int32) (x2 : Int32) (x3 : Int32) (x4 : Int32) : Int32 := j_X3_leastBy_22 uheld utab utr x0 x1 x2 x3 x4 6 0 (uheld ((6 * x0) + x3).toNatClampNeg) 1000
theorem inX3_leastBy_X3 : ∀ w ∈ u_ws RX3 TX3 15, w ∈ wsX3_leastBy := by decide +kernel
set_option maxRecDepth 100000 in
set_option maxHeartbeats 4000000 in
theorem c_X3_leastBy {l : Launch} {D : va_G} (b0 : Nat) (bP : Nat) (bR : Nat) (bS : Nat) (bT : Nat) (bG : Nat) (bW : Nat) (bH : Nat) (bO : Nat) (cP : ClassId) (cR : ClassId) (cS : ClassId) (cT : ClassId) (cG : ClassId) (cW : ClassId) (cH : ClassId) (cO : ClassId) (uplace : Nat → Int32) (urow : Nat → Int32) (upts : Nat → Int32) (utks : Nat → Int32) (uglv : Nat → Int32) (uwin : Nat → Int32) (uheld : Nat → Int32) (utab : Nat → Int32) (udrawn : Int32) (udealt : Int32) (uon : Int32) (uturn : Int32) (uled : Int32) (utr : Int32) (uthr : Int32) (x0 : Int32) (x1 : Int32) (x2 : Int32) (x3 : Int32) (x4 : Int32) (ha : x0 = 0 ∨ x0 = 1) (hm : vp_in x1 64) (ho : vp_in x2 64) (hk : vp_in x3 6) : jR l yX3_leastBy wsX3_leastBy rX3_leastBy D [.ref b0, .int x0, .int x1, .int x2, .int x3, .int x4] (jM b0 bP bR bS bT bG bW bH bO cP cR cS cT cG cW cH cO uplace urow upts utks uglv uwin uheld utab udrawn udealt uon uturn uled utr uthr) [(cP, .int), (cR, .int), (cS, .int), (cT, .int), (cG, .int), (cW, .int), (cH, .int), (cO, .int)] (.int (j_X3_leastBy uheld utab utr x0 x1 x2 x3 x4)) := by
  refine jR_of (cc := cX3_leastBy) (maxL := 11) (ret := (some .int)) (by decide) rfl (Nat.le_of_ble_eq_true rfl) ?_
  intro p e s m below meth c ls S hr hlocks hP hK hN hl
  obtain ⟨hx, hb, hml, hown, hts⟩ := id S
  have hl : lv_has ls 11 [(0, .ref b0), (1, .int x0), (2, .int x1), (3, .int x2), (4, .int x3), (5, .int x4)] := hl
  have loop22 : ∀ (n i : Nat) (y6 : Int32) (y7 : Int32), i + n = 6 → j_X3_leastBy_22 uheld utab utr x0 x1 x2 x3 x4 n i y6 y7 = (j_X3_leastBy uheld utab utr x0 x1 x2 x3 x4) → ∀ (ls : Array Slot), lv_has ls 11 [(8, .int (nI i)), (6, .int y6), (7, .int y7), (0, .ref b0), (1, .int x0), (2, .int x1), (3, .int x2), (4, .int x3), (5, .int x4)] → W p l e rX3_leastBy s m ([.ref b0, .int x0, .int x1, .int x2, .int x3, .int x4] : List Value).toArray below meth c s.heap [] 0 0 (MQ below (k2_QcV (.int (j_X3_leastBy uheld utab utr x0 x1 x2 x3 x4))) ([.ref b0, .int x0, .int x1, .int x2, .int x3, .int x4] : List Value).toArray s 0 0 (fun _ => False)) (F0 m 22 ls []) := by
    intro n
    induction n with
    | zero =>
      intro i y6 y7 hin hv ls hl
      have hge : (6 : Int32) ≤ nI i := by rw [show i = 6 by omega]; decide
      have hgl : ¬ nI i < (6 : Int32) := by rw [show i = 6 by omega]; decide
      refine lv_iload hx hb dX3_leastBy_22 (lv_at hl 0 rfl) ?_
      refine lv_bipush (v := 6) hx hb dX3_leastBy_24 (by decide) ?_
      refine lv_icmp_ge (tgt := 121) hx hb dX3_leastBy_26 (by decide) (fun _ => ?_) (fun c_ => absurd hge c_)
      refine lv_iload hx hb dX3_leastBy_121 (lv_at hl 2 rfl) ?_
      exact jr_iret hx hb hr hlocks dX3_leastBy_123 (by rw [← hv]; simp only [j_X3_leastBy_22, if_pos hge, if_neg hgl])
    | succ n ih =>
      intro i y6 y7 hin hv ls hl
      have hge : ¬ (6 : Int32) ≤ nI i := nI_ge (a := i) (b := 6) (by omega) (by decide)
      have hgl : nI i < (6 : Int32) := nI_lt (a := i) (b := 6) (by omega) (by decide)
      refine lv_iload hx hb dX3_leastBy_22 (lv_at hl 0 rfl) ?_
      refine lv_bipush (v := 6) hx hb dX3_leastBy_24 (by decide) ?_
      refine lv_icmp_ge (tgt := 121) hx hb dX3_leastBy_26 (by decide) (fun c_ => absurd c_ hge) (fun _ => ?_)
      refine lv_aload_n hx hb dX3_leastBy_29 rfl (lv_at hl 3 rfl) ?_
      refine va_get (D := D) (ci := 3) (v := .ref bH) (C := RX3) (T := TX3) (N := 15) hx hb hts inX3_leastBy_X3 hown hK hP 0 rfl rfl 13 (by decide) (hts (.fieldLink RX3 35 "ArchivistTricksModel" "held" "[I") (by decide +kernel)) (fun _ h9 => h9) rfl dX3_leastBy_30 ?_
      refine lv_bipush (v := 6) hx hb dX3_leastBy_33 (by decide) ?_
      refine lv_iconst (v := 1) hx hb dX3_leastBy_35 (by decide) ?_
      refine lv_iload_n hx hb dX3_leastBy_36 rfl (lv_at hl 4 rfl) ?_
      refine lv_isub hx hb dX3_leastBy_37 ?_
      refine lv_imul hx hb dX3_leastBy_38 ?_
      refine lv_iload hx hb dX3_leastBy_39 (lv_at hl 0 rfl) ?_
      refine lv_iadd hx hb dX3_leastBy_41 ?_
      refine va_iald hx hb hK hP 7 6 rfl rfl (i := (6 * (1 - x0)) + (nI i)) (by first | exact jx_heldv ha hk | exact jx_held (jx_flip ha) (by omega)) dX3_leastBy_42 ?_
      refine lv_istore (lv' := [(9, .int (uheld ((6 * (1 - x0)) + (nI i)).toNatClampNeg)), (8, .int (nI i)), (6, .int y6), (7, .int y7), (0, .ref b0), (1, .int x0), (2, .int x1), (3, .int x2), (4, .int x3), (5, .int x4)]) hx hb dX3_leastBy_43 hl (by decide) rfl (fun ls hl => ?_)
      refine lv_iload_n hx hb dX3_leastBy_45 rfl (lv_at hl 7 rfl) ?_
      refine lv_iload hx hb dX3_leastBy_46 (lv_at hl 1 rfl) ?_
      refine lv_ishr hx hb dX3_leastBy_48 ?_
      refine lv_iconst (v := 1) hx hb dX3_leastBy_49 (by decide) ?_
      refine lv_iand hx hb dX3_leastBy_50 ?_
      refine lv_iconst (v := 1) hx hb dX3_leastBy_51 (by decide) ?_
      refine lv_icmp_ne (tgt := 115) hx hb dX3_leastBy_52 (by decide) (fun c_22001 => ?_) (fun c_22001 => ?_)
      · skip
        refine lv_iinc (v := nI (i + 1)) (lv' := [(8, .int (nI (i + 1))), (9, .int (uheld ((6 * (1 - x0)) + (nI i)).toNatClampNeg)), (6, .int y6), (7, .int y7), (0, .ref b0), (1, .int x0), (2, .int x1), (3, .int x2), (4, .int x3), (5, .int x4)]) hx hb dX3_leastBy_115 hl (k := 1) rfl (nI_1 i) (by decide) rfl (fun ls hl => ?_)
        refine lv_goto (tgt := 22) hx hb dX3_leastBy_118 (by decide) ?_
        exact ih (i + 1) y6 y7 (by omega) (by rw [← hv]; simp only [j_X3_leastBy_22, if_neg hge, if_pos hgl, if_neg c_22001]) ls (lv_sub hl [0, 2, 3, 4, 5, 6, 7, 8, 9] rfl)
      · skip
        refine lv_aload_n hx hb dX3_leastBy_55 rfl (lv_at hl 4 rfl) ?_
        refine lv_iconst (v := 1) hx hb dX3_leastBy_56 (by decide) ?_
        refine lv_iload_n hx hb dX3_leastBy_57 rfl (lv_at hl 5 rfl) ?_
        refine lv_isub hx hb dX3_leastBy_58 ?_
        refine lv_iload_n hx hb dX3_leastBy_59 rfl (lv_at hl 7 rfl) ?_
        refine lv_iload hx hb dX3_leastBy_60 (lv_at hl 0 rfl) ?_
        refine lv_iload hx hb dX3_leastBy_62 (lv_at hl 2 rfl) ?_
        refine jr_callV (n := 4) (C := RX3) (As := [.int (1 - x0), .int x2, .int (uheld ((6 * (1 - x0)) + (nI i)).toNatClampNeg), .int y6]) (rest := []) S (c_X3_canFollow b0 bP bR bS bT bG bW bH bO cP cR cS cT cG cW cH cO uplace urow upts utks uglv uwin uheld utab udrawn udealt uon uturn uled utr uthr (1 - x0) x2 (uheld ((6 * (1 - x0)) + (nI i)).toNatClampNeg) y6 (jx_flip ha)) gX3_leastBy_X3_canFollow rfl (by decide +kernel) rfl ⟨⟨rfl, rfl⟩, ⟨Nat.le_of_ble_eq_true rfl, Nat.le_of_ble_eq_true rfl⟩, Nat.le_of_ble_eq_true rfl, Nat.le_of_ble_eq_true rfl⟩ hP hK hN [0, 1, 2, 3, 4, 5, 6, 7, 8] [0, 1, 2, 3, 4, 5, 6, 7] rfl rfl 0 3 rfl rfl rfl (lv_nil hl) rfl (Nat.le_of_ble_eq_true rfl) dX3_leastBy_64 ?_
        refine lv_if_eq (tgt := 115) hx hb dX3_leastBy_67 (by decide) (fun c_22002 => ?_) (fun c_22002 => ?_)
        · skip
          refine lv_iinc (v := nI (i + 1)) (lv' := [(8, .int (nI (i + 1))), (9, .int (uheld ((6 * (1 - x0)) + (nI i)).toNatClampNeg)), (6, .int y6), (7, .int y7), (0, .ref b0), (1, .int x0), (2, .int x1), (3, .int x2), (4, .int x3), (5, .int x4)]) hx hb dX3_leastBy_115 hl (k := 1) rfl (nI_1 i) (by decide) rfl (fun ls hl => ?_)
          refine lv_goto (tgt := 22) hx hb dX3_leastBy_118 (by decide) ?_
          exact ih (i + 1) y6 y7 (by omega) (by rw [← hv]; simp only [j_X3_leastBy_22, if_neg hge, if_pos hgl, if_pos c_22001, if_pos c_22002]) ls (lv_sub hl [0, 2, 3, 4, 5, 6, 7, 8, 9] rfl)
        · skip
          refine lv_aload_n hx hb dX3_leastBy_70 rfl (lv_at hl 4 rfl) ?_
          refine lv_iload_n hx hb dX3_leastBy_71 rfl (lv_at hl 5 rfl) ?_
          refine lv_iload hx hb dX3_leastBy_72 (lv_at hl 2 rfl) ?_
          refine lv_iload hx hb dX3_leastBy_74 (lv_at hl 0 rfl) ?_
          refine lv_iload_n hx hb dX3_leastBy_76 rfl (lv_at hl 6 rfl) ?_
          refine lv_iconst (v := 1) hx hb dX3_leastBy_77 (by decide) ?_
          refine lv_iload hx hb dX3_leastBy_78 (lv_at hl 8 rfl) ?_
          refine lv_ishl hx hb dX3_leastBy_80 ?_
          refine lv_iconst (v := (-1)) hx hb dX3_leastBy_81 (by decide) ?_
          refine lv_ixor hx hb dX3_leastBy_82 ?_
          refine lv_iand hx hb dX3_leastBy_83 ?_
          refine lv_iload_n hx hb dX3_leastBy_84 rfl (lv_at hl 7 rfl) ?_
          refine lv_iconst (v := 1) hx hb dX3_leastBy_85 (by decide) ?_
          refine lv_iload hx hb dX3_leastBy_86 (lv_at hl 1 rfl) ?_
          refine lv_ishl hx hb dX3_leastBy_88 ?_
          refine lv_iconst (v := (-1)) hx hb dX3_leastBy_89 (by decide) ?_
          refine lv_ixor hx hb dX3_leastBy_90 ?_
          refine lv_iand hx hb dX3_leastBy_91 ?_
          refine lv_iload hx hb dX3_leastBy_92 (lv_at hl 9 rfl) ?_
          refine jr_callV (n := 6) (C := RX3) (As := [.int x0, .int y6, .int (uheld ((6 * (1 - x0)) + (nI i)).toNatClampNeg), .int (x1 &&& (((1 : Int32) <<< (x3 &&& 31)) ^^^ (-1))), .int (x2 &&& (((1 : Int32) <<< ((nI i) &&& 31)) ^^^ (-1))), .int x4]) (rest := []) S (c_X3_behind b0 bP bR bS bT bG bW bH bO cP cR cS cT cG cW cH cO uplace urow upts utks uglv uwin uheld utab udrawn udealt uon uturn uled utr uthr x0 y6 (uheld ((6 * (1 - x0)) + (nI i)).toNatClampNeg) (x1 &&& (((1 : Int32) <<< (x3 &&& 31)) ^^^ (-1))) (x2 &&& (((1 : Int32) <<< ((nI i) &&& 31)) ^^^ (-1))) x4 ha (jx_and hm) (jx_and ho)) gX3_leastBy_X3_behind rfl (by decide +kernel) rfl ⟨⟨rfl, rfl⟩, ⟨Nat.le_of_ble_eq_true rfl, Nat.le_of_ble_eq_true rfl⟩, Nat.le_of_ble_eq_true rfl, Nat.le_of_ble_eq_true rfl⟩ hP hK hN [0, 1, 2, 3, 4, 5, 6, 7, 8] [0, 1, 2, 3, 4, 5, 6, 7] rfl rfl 0 3 rfl rfl rfl (lv_nil hl) rfl (Nat.le_of_ble_eq_true rfl) dX3_leastBy_94 ?_
          refine lv_istore (lv' := [(10, .int (j_X3_behind utab utr x0 y6 (uheld ((6 * (1 - x0)) + (nI i)).toNatClampNeg) (x1 &&& (((1 : Int32) <<< (x3 &&& 31)) ^^^ (-1))) (x2 &&& (((1 : Int32) <<< ((nI i) &&& 31)) ^^^ (-1))) x4)), (9, .int (uheld ((6 * (1 - x0)) + (nI i)).toNatClampNeg)), (8, .int (nI i)), (6, .int y6), (7, .int y7), (0, .ref b0), (1, .int x0), (2, .int x1), (3, .int x2), (4, .int x3), (5, .int x4)]) hx hb dX3_leastBy_97 hl (by decide) rfl (fun ls hl => ?_)
          refine lv_iload hx hb dX3_leastBy_99 (lv_at hl 0 rfl) ?_
          refine lv_iload hx hb dX3_leastBy_101 (lv_at hl 4 rfl) ?_
          refine lv_icmp_ge (tgt := 111) hx hb dX3_leastBy_103 (by decide) (fun c_22003 => ?_) (fun c_22003 => ?_)
          · skip
            refine lv_iload hx hb dX3_leastBy_111 (lv_at hl 4 rfl) ?_
            refine lv_istore (lv' := [(7, .int y7), (10, .int (j_X3_behind utab utr x0 y6 (uheld ((6 * (1 - x0)) + (nI i)).toNatClampNeg) (x1 &&& (((1 : Int32) <<< (x3 &&& 31)) ^^^ (-1))) (x2 &&& (((1 : Int32) <<< ((nI i) &&& 31)) ^^^ (-1))) x4)), (9, .int (uheld ((6 * (1 - x0)) + (nI i)).toNatClampNeg)), (8, .int (nI i)), (6, .int y6), (0, .ref b0), (1, .int x0), (2, .int x1), (3, .int x2), (4, .int x3), (5, .int x4)]) hx hb dX3_leastBy_113 hl (by decide) rfl (fun ls hl => ?_)
            refine lv_iinc (v := nI (i + 1)) (lv' := [(8, .int (nI (i + 1))), (7, .int y7), (10, .int (j_X3_behind utab utr x0 y6 (uheld ((6 * (1 - x0)) + (nI i)).toNatClampNeg) (x1 &&& (((1 : Int32) <<< (x3 &&& 31)) ^^^ (-1))) (x2 &&& (((1 : Int32) <<< ((nI i) &&& 31)) ^^^ (-1))) x4)), (9, .int (uheld ((6 * (1 - x0)) + (nI i)).toNatClampNeg)), (6, .int y6), (0, .ref b0), (1, .int x0), (2, .int x1), (3, .int x2), (4, .int x3), (5, .int x4)]) hx hb dX3_leastBy_115 hl (k := 3) rfl (nI_1 i) (by decide) rfl (fun ls hl => ?_)
            refine lv_goto (tgt := 22) hx hb dX3_leastBy_118 (by decide) ?_
            exact ih (i + 1) y6 y7 (by omega) (by rw [← hv]; simp only [j_X3_leastBy_22, if_neg hge, if_pos hgl, if_pos c_22001, if_neg c_22002, if_pos c_22003]) ls (lv_sub hl [0, 4, 1, 5, 6, 7, 8, 9, 10] rfl)
          · skip
            refine lv_iload hx hb dX3_leastBy_106 (lv_at hl 0 rfl) ?_
            refine lv_goto (tgt := 113) hx hb dX3_leastBy_108 (by decide) ?_
            refine lv_istore (lv' := [(7, .int (j_X3_behind utab utr x0 y6 (uheld ((6 * (1 - x0)) + (nI i)).toNatClampNeg) (x1 &&& (((1 : Int32) <<< (x3 &&& 31)) ^^^ (-1))) (x2 &&& (((1 : Int32) <<< ((nI i) &&& 31)) ^^^ (-1))) x4)), (10, .int (j_X3_behind utab utr x0 y6 (uheld ((6 * (1 - x0)) + (nI i)).toNatClampNeg) (x1 &&& (((1 : Int32) <<< (x3 &&& 31)) ^^^ (-1))) (x2 &&& (((1 : Int32) <<< ((nI i) &&& 31)) ^^^ (-1))) x4)), (9, .int (uheld ((6 * (1 - x0)) + (nI i)).toNatClampNeg)), (8, .int (nI i)), (6, .int y6), (0, .ref b0), (1, .int x0), (2, .int x1), (3, .int x2), (4, .int x3), (5, .int x4)]) hx hb dX3_leastBy_113 hl (by decide) rfl (fun ls hl => ?_)
            refine lv_iinc (v := nI (i + 1)) (lv' := [(8, .int (nI (i + 1))), (7, .int (j_X3_behind utab utr x0 y6 (uheld ((6 * (1 - x0)) + (nI i)).toNatClampNeg) (x1 &&& (((1 : Int32) <<< (x3 &&& 31)) ^^^ (-1))) (x2 &&& (((1 : Int32) <<< ((nI i) &&& 31)) ^^^ (-1))) x4)), (10, .int (j_X3_behind utab utr x0 y6 (uheld ((6 * (1 - x0)) + (nI i)).toNatClampNeg) (x1 &&& (((1 : Int32) <<< (x3 &&& 31)) ^^^ (-1))) (x2 &&& (((1 : Int32) <<< ((nI i) &&& 31)) ^^^ (-1))) x4)), (9, .int (uheld ((6 * (1 - x0)) + (nI i)).toNatClampNeg)), (6, .int y6), (0, .ref b0), (1, .int x0), (2, .int x1), (3, .int x2), (4, .int x3), (5, .int x4)]) hx hb dX3_leastBy_115 hl (k := 3) rfl (nI_1 i) (by decide) rfl (fun ls hl => ?_)
            refine lv_goto (tgt := 22) hx hb dX3_leastBy_118 (by decide) ?_
            exact ih (i + 1) y6 (j_X3_behind utab utr x0 y6 (uheld ((6 * (1 - x0)) + (nI i)).toNatClampNeg) (x1 &&& (((1 : Int32) <<< (x3 &&& 31)) ^^^ (-1))) (x2 &&& (((1 : Int32) <<< ((nI i) &&& 31)) ^^^ (-1))) x4) (by omega) (by rw [← hv]; simp only [j_X3_leastBy_22, if_neg hge, if_pos hgl, if_pos c_22001, if_neg c_22002, if_neg c_22003]) ls (lv_sub hl [0, 4, 1, 5, 6, 7, 8, 9, 10] rfl)
  refine lv_aload_n hx hb dX3_leastBy_0 rfl (lv_at hl 0 rfl) ?_
  refine va_get (D := D) (ci := 3) (v := .ref bH) (C := RX3) (T := TX3) (N := 15) hx hb hts inX3_leastBy_X3 hown hK hP 0 rfl rfl 13 (by decide) (hts (.fieldLink RX3 35 "ArchivistTricksModel" "held" "[I") (by decide +kernel)) (fun _ h9 => h9) rfl dX3_leastBy_1 ?_
  refine lv_bipush (v := 6) hx hb dX3_leastBy_4 (by decide) ?_
  refine lv_iload_n hx hb dX3_leastBy_6 rfl (lv_at hl 1 rfl) ?_
  refine lv_imul hx hb dX3_leastBy_7 ?_
  refine lv_iload hx hb dX3_leastBy_8 (lv_at hl 4 rfl) ?_
  refine lv_iadd hx hb dX3_leastBy_10 ?_
  refine va_iald hx hb hK hP 7 6 rfl rfl (i := (6 * x0) + x3) (by first | exact jx_heldv ha hk | exact jx_held (jx_flip ha) (by omega)) dX3_leastBy_11 ?_
  refine lv_istore (lv' := [(6, .int (uheld ((6 * x0) + x3).toNatClampNeg)), (0, .ref b0), (1, .int x0), (2, .int x1), (3, .int x2), (4, .int x3), (5, .int x4)]) hx hb dX3_leastBy_12 hl (by decide) rfl (fun ls hl => ?_)
  refine lv_sipush (v := 1000) hx hb dX3_leastBy_14 (by decide) ?_
  refine lv_istore (lv' := [(7, .int 1000), (6, .int (uheld ((6 * x0) + x3).toNatClampNeg)), (0, .ref b0), (1, .int x0), (2, .int x1), (3, .int x2), (4, .int x3), (5, .int x4)]) hx hb dX3_leastBy_17 hl (by decide) rfl (fun ls hl => ?_)
  refine lv_iconst (v := 0) hx hb dX3_leastBy_19 (by decide) ?_
  refine lv_istore (lv' := [(8, .int 0), (7, .int 1000), (6, .int (uheld ((6 * x0) + x3).toNatClampNeg)), (0, .ref b0), (1, .int x0), (2, .int x1), (3, .int x2), (4, .int x3), (5, .int x4)]) hx hb dX3_leastBy_20 hl (by decide) rfl (fun ls hl => ?_)
  exact loop22 6 0 (uheld ((6 * x0) + x3).toNatClampNeg) 1000 rfl (by simp only [j_X3_leastBy]) ls (lv_sub (l' := [(8, .int (nI 0)), (6, .int (uheld ((6 * x0) + x3).toNatClampNeg)), (7, .int 1000), (0, .ref b0), (1, .int x0), (2, .int x1), (3, .int x2), (4, .int x3), (5, .int x4)]) hl [0, 2, 1, 3, 4, 5, 6, 7, 8] rfl)

abbrev rX3_mostOf : Room := { frames := 5, cells := 0, slots := 0, locals := 123 }
def j_X3_mostOf_8 (uheld : Nat → Int32) (utab : Nat → Int32) (utr : Int32) (x0 : Int32) (x1 : Int32) (x2 : Int32) (x3 : Int32) : Nat → Nat → Int32 → Int32
  | 0, i, y5 => (if x1 = 0 then 0 else y5)
  | n + 1, i, y5 => (if (x1 >>> ((nI i) &&& 31)) &&& 1 = 1 then (if j_X3_canLead uheld x0 x1 (uheld ((6 * x0) + (nI i)).toNatClampNeg) = 0 then j_X3_mostOf_8 uheld utab utr x0 x1 x2 x3 n (i + 1) y5 else (if j_X3_leastBy uheld utab utr x0 x1 x2 (nI i) x3 ≤ y5 then j_X3_mostOf_8 uheld utab utr x0 x1 x2 x3 n (i + 1) y5 else j_X3_mostOf_8 uheld utab utr x0 x1 x2 x3 n (i + 1) (j_X3_leastBy uheld utab utr x0 x1 x2 (nI i) x3))) else j_X3_mostOf_8 uheld utab utr x0 x1 x2 x3 n (i + 1) y5)
def j_X3_mostOf (uheld : Nat → Int32) (utab : Nat → Int32) (utr : Int32) (x0 : Int32) (x1 : Int32) (x2 : Int32) (x3 : Int32) : Int32 := j_X3_mostOf_8 uheld utab utr x0 x1 x2 x3 6 0 (-1000)
theorem inX3_mostOf_X3 : ∀ w ∈ u_ws RX3 TX3 15, w ∈ wsX3_mostOf := by decide +kernel
set_option maxRecDepth 100000 in
set_option maxHeartbeats 4000000 in
theorem c_X3_mostOf {l : Launch} {D : va_G} (b0 : Nat) (bP : Nat) (bR : Nat) (bS : Nat) (bT : Nat) (bG : Nat) (bW : Nat) (bH : Nat) (bO : Nat) (cP : ClassId) (cR : ClassId) (cS : ClassId) (cT : ClassId) (cG : ClassId) (cW : ClassId) (cH : ClassId) (cO : ClassId) (uplace : Nat → Int32) (urow : Nat → Int32) (upts : Nat → Int32) (utks : Nat → Int32) (uglv : Nat → Int32) (uwin : Nat → Int32) (uheld : Nat → Int32) (utab : Nat → Int32) (udrawn : Int32) (udealt : Int32) (uon : Int32) (uturn : Int32) (uled : Int32) (utr : Int32) (uthr : Int32) (x0 : Int32) (x1 : Int32) (x2 : Int32) (x3 : Int32) (ha : x0 = 0 ∨ x0 = 1) (hm : vp_in x1 64) (ho : vp_in x2 64) : jR l yX3_mostOf wsX3_mostOf rX3_mostOf D [.ref b0, .int x0, .int x1, .int x2, .int x3] (jM b0 bP bR bS bT bG bW bH bO cP cR cS cT cG cW cH cO uplace urow upts utks uglv uwin uheld utab udrawn udealt uon uturn uled utr uthr) [(cP, .int), (cR, .int), (cS, .int), (cT, .int), (cG, .int), (cW, .int), (cH, .int), (cO, .int)] (.int (j_X3_mostOf uheld utab utr x0 x1 x2 x3)) := by
  refine jR_of (cc := cX3_mostOf) (maxL := 8) (ret := (some .int)) (by decide) rfl (Nat.le_of_ble_eq_true rfl) ?_
  intro p e s m below meth c ls S hr hlocks hP hK hN hl
  obtain ⟨hx, hb, hml, hown, hts⟩ := id S
  have hl : lv_has ls 8 [(0, .ref b0), (1, .int x0), (2, .int x1), (3, .int x2), (4, .int x3)] := hl
  have loop8 : ∀ (n i : Nat) (y5 : Int32), i + n = 6 → j_X3_mostOf_8 uheld utab utr x0 x1 x2 x3 n i y5 = (j_X3_mostOf uheld utab utr x0 x1 x2 x3) → ∀ (ls : Array Slot), lv_has ls 8 [(6, .int (nI i)), (5, .int y5), (0, .ref b0), (1, .int x0), (2, .int x1), (3, .int x2), (4, .int x3)] → W p l e rX3_mostOf s m ([.ref b0, .int x0, .int x1, .int x2, .int x3] : List Value).toArray below meth c s.heap [] 0 0 (MQ below (k2_QcV (.int (j_X3_mostOf uheld utab utr x0 x1 x2 x3))) ([.ref b0, .int x0, .int x1, .int x2, .int x3] : List Value).toArray s 0 0 (fun _ => False)) (F0 m 8 ls []) := by
    intro n
    induction n with
    | zero =>
      intro i y5 hin hv ls hl
      have hge : (6 : Int32) ≤ nI i := by rw [show i = 6 by omega]; decide
      have hgl : ¬ nI i < (6 : Int32) := by rw [show i = 6 by omega]; decide
      refine lv_iload hx hb dX3_mostOf_8 (lv_at hl 0 rfl) ?_
      refine lv_bipush (v := 6) hx hb dX3_mostOf_10 (by decide) ?_
      refine lv_icmp_ge (tgt := 81) hx hb dX3_mostOf_12 (by decide) (fun _ => ?_) (fun c_ => absurd hge c_)
      refine lv_iload_n hx hb dX3_mostOf_81 rfl (lv_at hl 4 rfl) ?_
      refine lv_if_ne (tgt := 89) hx hb dX3_mostOf_82 (by decide) (fun c_8001 => ?_) (fun c_8001 => ?_)
      · skip
        refine lv_iload hx hb dX3_mostOf_89 (lv_at hl 1 rfl) ?_
        exact jr_iret hx hb hr hlocks dX3_mostOf_91 (by rw [← hv]; simp only [j_X3_mostOf_8, if_pos hge, if_neg hgl, if_neg c_8001])
      · skip
        refine lv_iconst (v := 0) hx hb dX3_mostOf_85 (by decide) ?_
        refine lv_goto (tgt := 91) hx hb dX3_mostOf_86 (by decide) ?_
        exact jr_iret hx hb hr hlocks dX3_mostOf_91 (by rw [← hv]; simp only [j_X3_mostOf_8, if_pos hge, if_neg hgl, if_pos c_8001])
    | succ n ih =>
      intro i y5 hin hv ls hl
      have hge : ¬ (6 : Int32) ≤ nI i := nI_ge (a := i) (b := 6) (by omega) (by decide)
      have hgl : nI i < (6 : Int32) := nI_lt (a := i) (b := 6) (by omega) (by decide)
      refine lv_iload hx hb dX3_mostOf_8 (lv_at hl 0 rfl) ?_
      refine lv_bipush (v := 6) hx hb dX3_mostOf_10 (by decide) ?_
      refine lv_icmp_ge (tgt := 81) hx hb dX3_mostOf_12 (by decide) (fun c_ => absurd c_ hge) (fun _ => ?_)
      refine lv_iload_n hx hb dX3_mostOf_15 rfl (lv_at hl 4 rfl) ?_
      refine lv_iload hx hb dX3_mostOf_16 (lv_at hl 0 rfl) ?_
      refine lv_ishr hx hb dX3_mostOf_18 ?_
      refine lv_iconst (v := 1) hx hb dX3_mostOf_19 (by decide) ?_
      refine lv_iand hx hb dX3_mostOf_20 ?_
      refine lv_iconst (v := 1) hx hb dX3_mostOf_21 (by decide) ?_
      refine lv_icmp_ne (tgt := 75) hx hb dX3_mostOf_22 (by decide) (fun c_8002 => ?_) (fun c_8002 => ?_)
      · skip
        refine lv_iinc (v := nI (i + 1)) (lv' := [(6, .int (nI (i + 1))), (5, .int y5), (0, .ref b0), (1, .int x0), (2, .int x1), (3, .int x2), (4, .int x3)]) hx hb dX3_mostOf_75 hl (k := 0) rfl (nI_1 i) (by decide) rfl (fun ls hl => ?_)
        refine lv_goto (tgt := 8) hx hb dX3_mostOf_78 (by decide) ?_
        exact ih (i + 1) y5 (by omega) (by rw [← hv]; simp only [j_X3_mostOf_8, if_neg hge, if_pos hgl, if_neg c_8002]) ls (lv_sub hl [0, 1, 2, 3, 4, 5, 6] rfl)
      · skip
        refine lv_aload_n hx hb dX3_mostOf_25 rfl (lv_at hl 2 rfl) ?_
        refine lv_iload_n hx hb dX3_mostOf_26 rfl (lv_at hl 3 rfl) ?_
        refine lv_iload_n hx hb dX3_mostOf_27 rfl (lv_at hl 4 rfl) ?_
        refine lv_aload_n hx hb dX3_mostOf_28 rfl (lv_at hl 2 rfl) ?_
        refine va_get (D := D) (ci := 3) (v := .ref bH) (C := RX3) (T := TX3) (N := 15) hx hb hts inX3_mostOf_X3 hown hK hP 0 rfl rfl 13 (by decide) (hts (.fieldLink RX3 35 "ArchivistTricksModel" "held" "[I") (by decide +kernel)) (fun _ h9 => h9) rfl dX3_mostOf_29 ?_
        refine lv_bipush (v := 6) hx hb dX3_mostOf_32 (by decide) ?_
        refine lv_iload_n hx hb dX3_mostOf_34 rfl (lv_at hl 3 rfl) ?_
        refine lv_imul hx hb dX3_mostOf_35 ?_
        refine lv_iload hx hb dX3_mostOf_36 (lv_at hl 0 rfl) ?_
        refine lv_iadd hx hb dX3_mostOf_38 ?_
        refine va_iald hx hb hK hP 7 6 rfl rfl (i := (6 * x0) + (nI i)) (jx_held ha (by omega)) dX3_mostOf_39 ?_
        refine jr_callV (n := 3) (C := RX3) (As := [.int x0, .int x1, .int (uheld ((6 * x0) + (nI i)).toNatClampNeg)]) (rest := []) S (c_X3_canLead b0 bP bR bS bT bG bW bH bO cP cR cS cT cG cW cH cO uplace urow upts utks uglv uwin uheld utab udrawn udealt uon uturn uled utr uthr x0 x1 (uheld ((6 * x0) + (nI i)).toNatClampNeg) ha) gX3_mostOf_X3_canLead rfl (by decide +kernel) rfl ⟨⟨rfl, rfl⟩, ⟨Nat.le_of_ble_eq_true rfl, Nat.le_of_ble_eq_true rfl⟩, Nat.le_of_ble_eq_true rfl, Nat.le_of_ble_eq_true rfl⟩ hP hK hN [0, 1, 2, 3, 4, 5, 6, 7, 8] [0, 1, 2, 3, 4, 5, 6, 7] rfl rfl 0 3 rfl rfl rfl (lv_nil hl) rfl (Nat.le_of_ble_eq_true rfl) dX3_mostOf_40 ?_
        refine lv_if_eq (tgt := 75) hx hb dX3_mostOf_43 (by decide) (fun c_8003 => ?_) (fun c_8003 => ?_)
        · skip
          refine lv_iinc (v := nI (i + 1)) (lv' := [(6, .int (nI (i + 1))), (5, .int y5), (0, .ref b0), (1, .int x0), (2, .int x1), (3, .int x2), (4, .int x3)]) hx hb dX3_mostOf_75 hl (k := 0) rfl (nI_1 i) (by decide) rfl (fun ls hl => ?_)
          refine lv_goto (tgt := 8) hx hb dX3_mostOf_78 (by decide) ?_
          exact ih (i + 1) y5 (by omega) (by rw [← hv]; simp only [j_X3_mostOf_8, if_neg hge, if_pos hgl, if_pos c_8002, if_pos c_8003]) ls (lv_sub hl [0, 1, 2, 3, 4, 5, 6] rfl)
        · skip
          refine lv_aload_n hx hb dX3_mostOf_46 rfl (lv_at hl 2 rfl) ?_
          refine lv_iload_n hx hb dX3_mostOf_47 rfl (lv_at hl 3 rfl) ?_
          refine lv_iload_n hx hb dX3_mostOf_48 rfl (lv_at hl 4 rfl) ?_
          refine lv_iload_n hx hb dX3_mostOf_49 rfl (lv_at hl 5 rfl) ?_
          refine lv_iload hx hb dX3_mostOf_50 (lv_at hl 0 rfl) ?_
          refine lv_iload hx hb dX3_mostOf_52 (lv_at hl 6 rfl) ?_
          refine jr_callV (n := 5) (C := RX3) (As := [.int x0, .int x1, .int x2, .int (nI i), .int x3]) (rest := []) S (c_X3_leastBy b0 bP bR bS bT bG bW bH bO cP cR cS cT cG cW cH cO uplace urow upts utks uglv uwin uheld utab udrawn udealt uon uturn uled utr uthr x0 x1 x2 (nI i) x3 ha hm ho (vp_in_nI (by omega) (by decide))) gX3_mostOf_X3_leastBy rfl (by decide +kernel) rfl ⟨⟨rfl, rfl⟩, ⟨Nat.le_of_ble_eq_true rfl, Nat.le_of_ble_eq_true rfl⟩, Nat.le_of_ble_eq_true rfl, Nat.le_of_ble_eq_true rfl⟩ hP hK hN [0, 1, 2, 3, 4, 5, 6, 7, 8] [0, 1, 2, 3, 4, 5, 6, 7] rfl rfl 0 3 rfl rfl rfl (lv_nil hl) rfl (Nat.le_of_ble_eq_true rfl) dX3_mostOf_54 ?_
          refine lv_istore (lv' := [(7, .int (j_X3_leastBy uheld utab utr x0 x1 x2 (nI i) x3)), (6, .int (nI i)), (5, .int y5), (0, .ref b0), (1, .int x0), (2, .int x1), (3, .int x2), (4, .int x3)]) hx hb dX3_mostOf_57 hl (by decide) rfl (fun ls hl => ?_)
          refine lv_iload hx hb dX3_mostOf_59 (lv_at hl 0 rfl) ?_
          refine lv_iload hx hb dX3_mostOf_61 (lv_at hl 2 rfl) ?_
          refine lv_icmp_le (tgt := 71) hx hb dX3_mostOf_63 (by decide) (fun c_8004 => ?_) (fun c_8004 => ?_)
          · skip
            refine lv_iload hx hb dX3_mostOf_71 (lv_at hl 2 rfl) ?_
            refine lv_istore (lv' := [(5, .int y5), (7, .int (j_X3_leastBy uheld utab utr x0 x1 x2 (nI i) x3)), (6, .int (nI i)), (0, .ref b0), (1, .int x0), (2, .int x1), (3, .int x2), (4, .int x3)]) hx hb dX3_mostOf_73 hl (by decide) rfl (fun ls hl => ?_)
            refine lv_iinc (v := nI (i + 1)) (lv' := [(6, .int (nI (i + 1))), (5, .int y5), (7, .int (j_X3_leastBy uheld utab utr x0 x1 x2 (nI i) x3)), (0, .ref b0), (1, .int x0), (2, .int x1), (3, .int x2), (4, .int x3)]) hx hb dX3_mostOf_75 hl (k := 2) rfl (nI_1 i) (by decide) rfl (fun ls hl => ?_)
            refine lv_goto (tgt := 8) hx hb dX3_mostOf_78 (by decide) ?_
            exact ih (i + 1) y5 (by omega) (by rw [← hv]; simp only [j_X3_mostOf_8, if_neg hge, if_pos hgl, if_pos c_8002, if_neg c_8003, if_pos c_8004]) ls (lv_sub hl [0, 1, 3, 4, 5, 6, 7] rfl)
          · skip
            refine lv_iload hx hb dX3_mostOf_66 (lv_at hl 0 rfl) ?_
            refine lv_goto (tgt := 73) hx hb dX3_mostOf_68 (by decide) ?_
            refine lv_istore (lv' := [(5, .int (j_X3_leastBy uheld utab utr x0 x1 x2 (nI i) x3)), (7, .int (j_X3_leastBy uheld utab utr x0 x1 x2 (nI i) x3)), (6, .int (nI i)), (0, .ref b0), (1, .int x0), (2, .int x1), (3, .int x2), (4, .int x3)]) hx hb dX3_mostOf_73 hl (by decide) rfl (fun ls hl => ?_)
            refine lv_iinc (v := nI (i + 1)) (lv' := [(6, .int (nI (i + 1))), (5, .int (j_X3_leastBy uheld utab utr x0 x1 x2 (nI i) x3)), (7, .int (j_X3_leastBy uheld utab utr x0 x1 x2 (nI i) x3)), (0, .ref b0), (1, .int x0), (2, .int x1), (3, .int x2), (4, .int x3)]) hx hb dX3_mostOf_75 hl (k := 2) rfl (nI_1 i) (by decide) rfl (fun ls hl => ?_)
            refine lv_goto (tgt := 8) hx hb dX3_mostOf_78 (by decide) ?_
            exact ih (i + 1) (j_X3_leastBy uheld utab utr x0 x1 x2 (nI i) x3) (by omega) (by rw [← hv]; simp only [j_X3_mostOf_8, if_neg hge, if_pos hgl, if_pos c_8002, if_neg c_8003, if_neg c_8004]) ls (lv_sub hl [0, 1, 3, 4, 5, 6, 7] rfl)
  refine lv_sipush (v := (-1000)) hx hb dX3_mostOf_0 (by decide) ?_
  refine lv_istore (lv' := [(5, .int (-1000)), (0, .ref b0), (1, .int x0), (2, .int x1), (3, .int x2), (4, .int x3)]) hx hb dX3_mostOf_3 hl (by decide) rfl (fun ls hl => ?_)
  refine lv_iconst (v := 0) hx hb dX3_mostOf_5 (by decide) ?_
  refine lv_istore (lv' := [(6, .int 0), (5, .int (-1000)), (0, .ref b0), (1, .int x0), (2, .int x1), (3, .int x2), (4, .int x3)]) hx hb dX3_mostOf_6 hl (by decide) rfl (fun ls hl => ?_)
  exact loop8 6 0 (-1000) rfl (by simp only [j_X3_mostOf]) ls (lv_sub (l' := [(6, .int (nI 0)), (5, .int (-1000)), (0, .ref b0), (1, .int x0), (2, .int x1), (3, .int x2), (4, .int x3)]) hl [0, 1, 2, 3, 4, 5, 6] rfl)

abbrev rX3_byCard : Room := { frames := 5, cells := 0, slots := 0, locals := 123 }
def j_X3_byCard (uplace : Nat → Int32) (uglv : Nat → Int32) (uheld : Nat → Int32) (utab : Nat → Int32) (udealt : Int32) (uturn : Int32) (uled : Int32) (utr : Int32) (x0 : Int32) : Int32 := (if 0 ≤ uled then -(j_X3_behind utab utr (1 - uturn) uled (uheld ((6 * uturn) + x0).toNatClampNeg) (((1 : Int32) <<< ((j_X3_howMany uplace udealt (1 - uturn)) &&& 31)) - 1) ((((1 : Int32) <<< ((j_X3_howMany uplace udealt uturn) &&& 31)) - 1) &&& (((1 : Int32) <<< (x0 &&& 31)) ^^^ (-1))) (j_X3_wornNow uglv)) else j_X3_leastBy uheld utab utr uturn (((1 : Int32) <<< ((j_X3_howMany uplace udealt uturn) &&& 31)) - 1) (((1 : Int32) <<< ((j_X3_howMany uplace udealt (1 - uturn)) &&& 31)) - 1) x0 (j_X3_wornNow uglv))
theorem inX3_byCard_X3 : ∀ w ∈ u_ws RX3 TX3 15, w ∈ wsX3_byCard := by decide +kernel
set_option maxRecDepth 100000 in
set_option maxHeartbeats 4000000 in
theorem c_X3_byCard {l : Launch} {D : va_G} (b0 : Nat) (bP : Nat) (bR : Nat) (bS : Nat) (bT : Nat) (bG : Nat) (bW : Nat) (bH : Nat) (bO : Nat) (cP : ClassId) (cR : ClassId) (cS : ClassId) (cT : ClassId) (cG : ClassId) (cW : ClassId) (cH : ClassId) (cO : ClassId) (uplace : Nat → Int32) (urow : Nat → Int32) (upts : Nat → Int32) (utks : Nat → Int32) (uglv : Nat → Int32) (uwin : Nat → Int32) (uheld : Nat → Int32) (utab : Nat → Int32) (udrawn : Int32) (udealt : Int32) (uon : Int32) (uturn : Int32) (uled : Int32) (utr : Int32) (uthr : Int32) (x0 : Int32) (ht : uturn = 0 ∨ uturn = 1) (hk : vp_in x0 6) (hA : vp_in (((1 : Int32) <<< ((j_X3_howMany uplace udealt uturn) &&& 31)) - 1) 64) (hB : vp_in (((1 : Int32) <<< ((j_X3_howMany uplace udealt (1 - uturn)) &&& 31)) - 1) 64) : jR l yX3_byCard wsX3_byCard rX3_byCard D [.ref b0, .int x0] (jM b0 bP bR bS bT bG bW bH bO cP cR cS cT cG cW cH cO uplace urow upts utks uglv uwin uheld utab udrawn udealt uon uturn uled utr uthr) [(cP, .int), (cR, .int), (cS, .int), (cT, .int), (cG, .int), (cW, .int), (cH, .int), (cO, .int)] (.int (j_X3_byCard uplace uglv uheld utab udealt uturn uled utr x0)) := by
  refine jR_of (cc := cX3_byCard) (maxL := 4) (ret := (some .int)) (by decide) rfl (Nat.le_of_ble_eq_true rfl) ?_
  intro p e s m below meth c ls S hr hlocks hP hK hN hl
  obtain ⟨hx, hb, hml, hown, hts⟩ := id S
  have hl : lv_has ls 4 [(0, .ref b0), (1, .int x0)] := hl
  refine lv_iconst (v := 1) hx hb dX3_byCard_0 (by decide) ?_
  refine lv_aload_n hx hb dX3_byCard_1 rfl (lv_at hl 0 rfl) ?_
  refine lv_aload_n hx hb dX3_byCard_2 rfl (lv_at hl 0 rfl) ?_
  refine va_get (D := D) (ci := 3) (v := .int uturn) (C := RX3) (T := TX3) (N := 15) hx hb hts inX3_byCard_X3 hown hK hP 0 rfl rfl 5 (by decide) (hts (.fieldLink RX3 69 "ArchivistTricksModel" "turn" "I") (by decide +kernel)) (fun _ h9 => h9) rfl dX3_byCard_3 ?_
  refine jr_callV (n := 1) (C := RX3) (As := [.int uturn]) (rest := [.int 1]) S (c_X3_howMany b0 bP bR bS bT bG bW bH bO cP cR cS cT cG cW cH cO uplace urow upts utks uglv uwin uheld utab udrawn udealt uon uturn uled utr uthr uturn) gX3_byCard_X3_howMany rfl (by decide +kernel) rfl ⟨⟨rfl, rfl⟩, ⟨Nat.le_of_ble_eq_true rfl, Nat.le_of_ble_eq_true rfl⟩, Nat.le_of_ble_eq_true rfl, Nat.le_of_ble_eq_true rfl⟩ hP hK hN [0, 1, 2, 3, 4, 5, 6, 7, 8] [0, 1, 2, 3, 4, 5, 6, 7] rfl rfl 0 3 rfl rfl rfl (lv_nil hl) rfl (Nat.le_of_ble_eq_true rfl) dX3_byCard_6 ?_
  refine lv_ishl hx hb dX3_byCard_9 ?_
  refine lv_iconst (v := 1) hx hb dX3_byCard_10 (by decide) ?_
  refine lv_isub hx hb dX3_byCard_11 ?_
  refine lv_istore_n (lv' := [(2, .int (((1 : Int32) <<< ((j_X3_howMany uplace udealt uturn) &&& 31)) - 1)), (0, .ref b0), (1, .int x0)]) hx hb dX3_byCard_12 rfl hl (by decide) rfl (fun ls hl => ?_)
  refine lv_iconst (v := 1) hx hb dX3_byCard_13 (by decide) ?_
  refine lv_aload_n hx hb dX3_byCard_14 rfl (lv_at hl 1 rfl) ?_
  refine lv_iconst (v := 1) hx hb dX3_byCard_15 (by decide) ?_
  refine lv_aload_n hx hb dX3_byCard_16 rfl (lv_at hl 1 rfl) ?_
  refine va_get (D := D) (ci := 3) (v := .int uturn) (C := RX3) (T := TX3) (N := 15) hx hb hts inX3_byCard_X3 hown hK hP 0 rfl rfl 5 (by decide) (hts (.fieldLink RX3 69 "ArchivistTricksModel" "turn" "I") (by decide +kernel)) (fun _ h9 => h9) rfl dX3_byCard_17 ?_
  refine lv_isub hx hb dX3_byCard_20 ?_
  refine jr_callV (n := 1) (C := RX3) (As := [.int (1 - uturn)]) (rest := [.int 1]) S (c_X3_howMany b0 bP bR bS bT bG bW bH bO cP cR cS cT cG cW cH cO uplace urow upts utks uglv uwin uheld utab udrawn udealt uon uturn uled utr uthr (1 - uturn)) gX3_byCard_X3_howMany rfl (by decide +kernel) rfl ⟨⟨rfl, rfl⟩, ⟨Nat.le_of_ble_eq_true rfl, Nat.le_of_ble_eq_true rfl⟩, Nat.le_of_ble_eq_true rfl, Nat.le_of_ble_eq_true rfl⟩ hP hK hN [0, 1, 2, 3, 4, 5, 6, 7, 8] [0, 1, 2, 3, 4, 5, 6, 7] rfl rfl 0 3 rfl rfl rfl (lv_nil hl) rfl (Nat.le_of_ble_eq_true rfl) dX3_byCard_21 ?_
  refine lv_ishl hx hb dX3_byCard_24 ?_
  refine lv_iconst (v := 1) hx hb dX3_byCard_25 (by decide) ?_
  refine lv_isub hx hb dX3_byCard_26 ?_
  refine lv_istore_n (lv' := [(3, .int (((1 : Int32) <<< ((j_X3_howMany uplace udealt (1 - uturn)) &&& 31)) - 1)), (2, .int (((1 : Int32) <<< ((j_X3_howMany uplace udealt uturn) &&& 31)) - 1)), (0, .ref b0), (1, .int x0)]) hx hb dX3_byCard_27 rfl hl (by decide) rfl (fun ls hl => ?_)
  refine lv_aload_n hx hb dX3_byCard_28 rfl (lv_at hl 2 rfl) ?_
  refine va_get (D := D) (ci := 3) (v := .int uled) (C := RX3) (T := TX3) (N := 15) hx hb hts inX3_byCard_X3 hown hK hP 0 rfl rfl 6 (by decide) (hts (.fieldLink RX3 16 "ArchivistTricksModel" "ledCard" "I") (by decide +kernel)) (fun _ h9 => h9) rfl dX3_byCard_29 ?_
  refine lv_if_ge (tgt := 51) hx hb dX3_byCard_32 (by decide) (fun c_1 => ?_) (fun c_1 => ?_)
  · skip
    refine lv_aload_n hx hb dX3_byCard_51 rfl (lv_at hl 2 rfl) ?_
    refine lv_iconst (v := 1) hx hb dX3_byCard_52 (by decide) ?_
    refine lv_aload_n hx hb dX3_byCard_53 rfl (lv_at hl 2 rfl) ?_
    refine va_get (D := D) (ci := 3) (v := .int uturn) (C := RX3) (T := TX3) (N := 15) hx hb hts inX3_byCard_X3 hown hK hP 0 rfl rfl 5 (by decide) (hts (.fieldLink RX3 69 "ArchivistTricksModel" "turn" "I") (by decide +kernel)) (fun _ h9 => h9) rfl dX3_byCard_54 ?_
    refine lv_isub hx hb dX3_byCard_57 ?_
    refine lv_aload_n hx hb dX3_byCard_58 rfl (lv_at hl 2 rfl) ?_
    refine va_get (D := D) (ci := 3) (v := .int uled) (C := RX3) (T := TX3) (N := 15) hx hb hts inX3_byCard_X3 hown hK hP 0 rfl rfl 6 (by decide) (hts (.fieldLink RX3 16 "ArchivistTricksModel" "ledCard" "I") (by decide +kernel)) (fun _ h9 => h9) rfl dX3_byCard_59 ?_
    refine lv_aload_n hx hb dX3_byCard_62 rfl (lv_at hl 2 rfl) ?_
    refine va_get (D := D) (ci := 3) (v := .ref bH) (C := RX3) (T := TX3) (N := 15) hx hb hts inX3_byCard_X3 hown hK hP 0 rfl rfl 13 (by decide) (hts (.fieldLink RX3 35 "ArchivistTricksModel" "held" "[I") (by decide +kernel)) (fun _ h9 => h9) rfl dX3_byCard_63 ?_
    refine lv_bipush (v := 6) hx hb dX3_byCard_66 (by decide) ?_
    refine lv_aload_n hx hb dX3_byCard_68 rfl (lv_at hl 2 rfl) ?_
    refine va_get (D := D) (ci := 3) (v := .int uturn) (C := RX3) (T := TX3) (N := 15) hx hb hts inX3_byCard_X3 hown hK hP 0 rfl rfl 5 (by decide) (hts (.fieldLink RX3 69 "ArchivistTricksModel" "turn" "I") (by decide +kernel)) (fun _ h9 => h9) rfl dX3_byCard_69 ?_
    refine lv_imul hx hb dX3_byCard_72 ?_
    refine lv_iload_n hx hb dX3_byCard_73 rfl (lv_at hl 3 rfl) ?_
    refine lv_iadd hx hb dX3_byCard_74 ?_
    refine va_iald hx hb hK hP 7 6 rfl rfl (i := (6 * uturn) + x0) (jx_heldv ht hk) dX3_byCard_75 ?_
    refine lv_iload_n hx hb dX3_byCard_76 rfl (lv_at hl 0 rfl) ?_
    refine lv_iload_n hx hb dX3_byCard_77 rfl (lv_at hl 1 rfl) ?_
    refine lv_iconst (v := 1) hx hb dX3_byCard_78 (by decide) ?_
    refine lv_iload_n hx hb dX3_byCard_79 rfl (lv_at hl 3 rfl) ?_
    refine lv_ishl hx hb dX3_byCard_80 ?_
    refine lv_iconst (v := (-1)) hx hb dX3_byCard_81 (by decide) ?_
    refine lv_ixor hx hb dX3_byCard_82 ?_
    refine lv_iand hx hb dX3_byCard_83 ?_
    refine lv_aload_n hx hb dX3_byCard_84 rfl (lv_at hl 2 rfl) ?_
    refine jr_callV (n := 0) (C := RX3) (As := []) (rest := [.int ((((1 : Int32) <<< ((j_X3_howMany uplace udealt uturn) &&& 31)) - 1) &&& (((1 : Int32) <<< (x0 &&& 31)) ^^^ (-1))), .int (((1 : Int32) <<< ((j_X3_howMany uplace udealt (1 - uturn)) &&& 31)) - 1), .int (uheld ((6 * uturn) + x0).toNatClampNeg), .int uled, .int (1 - uturn), .ref b0]) S (c_X3_wornNow b0 bP bR bS bT bG bW bH bO cP cR cS cT cG cW cH cO uplace urow upts utks uglv uwin uheld utab udrawn udealt uon uturn uled utr uthr) gX3_byCard_X3_wornNow rfl (by decide +kernel) rfl ⟨⟨rfl, rfl⟩, ⟨Nat.le_of_ble_eq_true rfl, Nat.le_of_ble_eq_true rfl⟩, Nat.le_of_ble_eq_true rfl, Nat.le_of_ble_eq_true rfl⟩ hP hK hN [0, 1, 2, 3, 4, 5, 6, 7, 8] [0, 1, 2, 3, 4, 5, 6, 7] rfl rfl 0 3 rfl rfl rfl (lv_nil hl) rfl (Nat.le_of_ble_eq_true rfl) dX3_byCard_85 ?_
    refine jr_callV (n := 6) (C := RX3) (As := [.int (1 - uturn), .int uled, .int (uheld ((6 * uturn) + x0).toNatClampNeg), .int (((1 : Int32) <<< ((j_X3_howMany uplace udealt (1 - uturn)) &&& 31)) - 1), .int ((((1 : Int32) <<< ((j_X3_howMany uplace udealt uturn) &&& 31)) - 1) &&& (((1 : Int32) <<< (x0 &&& 31)) ^^^ (-1))), .int (j_X3_wornNow uglv)]) (rest := []) S (c_X3_behind b0 bP bR bS bT bG bW bH bO cP cR cS cT cG cW cH cO uplace urow upts utks uglv uwin uheld utab udrawn udealt uon uturn uled utr uthr (1 - uturn) uled (uheld ((6 * uturn) + x0).toNatClampNeg) (((1 : Int32) <<< ((j_X3_howMany uplace udealt (1 - uturn)) &&& 31)) - 1) ((((1 : Int32) <<< ((j_X3_howMany uplace udealt uturn) &&& 31)) - 1) &&& (((1 : Int32) <<< (x0 &&& 31)) ^^^ (-1))) (j_X3_wornNow uglv) (jx_flip ht) hB (jx_and hA)) gX3_byCard_X3_behind rfl (by decide +kernel) rfl ⟨⟨rfl, rfl⟩, ⟨Nat.le_of_ble_eq_true rfl, Nat.le_of_ble_eq_true rfl⟩, Nat.le_of_ble_eq_true rfl, Nat.le_of_ble_eq_true rfl⟩ hP hK hN [0, 1, 2, 3, 4, 5, 6, 7, 8] [0, 1, 2, 3, 4, 5, 6, 7] rfl rfl 0 3 rfl rfl rfl (lv_nil hl) rfl (Nat.le_of_ble_eq_true rfl) dX3_byCard_88 ?_
    refine lv_ineg hx hb dX3_byCard_91 ?_
    exact jr_iret hx hb hr hlocks dX3_byCard_92 (by simp only [j_X3_byCard, if_pos c_1])
  · skip
    refine lv_aload_n hx hb dX3_byCard_35 rfl (lv_at hl 2 rfl) ?_
    refine lv_aload_n hx hb dX3_byCard_36 rfl (lv_at hl 2 rfl) ?_
    refine va_get (D := D) (ci := 3) (v := .int uturn) (C := RX3) (T := TX3) (N := 15) hx hb hts inX3_byCard_X3 hown hK hP 0 rfl rfl 5 (by decide) (hts (.fieldLink RX3 69 "ArchivistTricksModel" "turn" "I") (by decide +kernel)) (fun _ h9 => h9) rfl dX3_byCard_37 ?_
    refine lv_iload_n hx hb dX3_byCard_40 rfl (lv_at hl 1 rfl) ?_
    refine lv_iload_n hx hb dX3_byCard_41 rfl (lv_at hl 0 rfl) ?_
    refine lv_iload_n hx hb dX3_byCard_42 rfl (lv_at hl 3 rfl) ?_
    refine lv_aload_n hx hb dX3_byCard_43 rfl (lv_at hl 2 rfl) ?_
    refine jr_callV (n := 0) (C := RX3) (As := []) (rest := [.int x0, .int (((1 : Int32) <<< ((j_X3_howMany uplace udealt (1 - uturn)) &&& 31)) - 1), .int (((1 : Int32) <<< ((j_X3_howMany uplace udealt uturn) &&& 31)) - 1), .int uturn, .ref b0]) S (c_X3_wornNow b0 bP bR bS bT bG bW bH bO cP cR cS cT cG cW cH cO uplace urow upts utks uglv uwin uheld utab udrawn udealt uon uturn uled utr uthr) gX3_byCard_X3_wornNow rfl (by decide +kernel) rfl ⟨⟨rfl, rfl⟩, ⟨Nat.le_of_ble_eq_true rfl, Nat.le_of_ble_eq_true rfl⟩, Nat.le_of_ble_eq_true rfl, Nat.le_of_ble_eq_true rfl⟩ hP hK hN [0, 1, 2, 3, 4, 5, 6, 7, 8] [0, 1, 2, 3, 4, 5, 6, 7] rfl rfl 0 3 rfl rfl rfl (lv_nil hl) rfl (Nat.le_of_ble_eq_true rfl) dX3_byCard_44 ?_
    refine jr_callV (n := 5) (C := RX3) (As := [.int uturn, .int (((1 : Int32) <<< ((j_X3_howMany uplace udealt uturn) &&& 31)) - 1), .int (((1 : Int32) <<< ((j_X3_howMany uplace udealt (1 - uturn)) &&& 31)) - 1), .int x0, .int (j_X3_wornNow uglv)]) (rest := []) S (c_X3_leastBy b0 bP bR bS bT bG bW bH bO cP cR cS cT cG cW cH cO uplace urow upts utks uglv uwin uheld utab udrawn udealt uon uturn uled utr uthr uturn (((1 : Int32) <<< ((j_X3_howMany uplace udealt uturn) &&& 31)) - 1) (((1 : Int32) <<< ((j_X3_howMany uplace udealt (1 - uturn)) &&& 31)) - 1) x0 (j_X3_wornNow uglv) ht hA hB hk) gX3_byCard_X3_leastBy rfl (by decide +kernel) rfl ⟨⟨rfl, rfl⟩, ⟨Nat.le_of_ble_eq_true rfl, Nat.le_of_ble_eq_true rfl⟩, Nat.le_of_ble_eq_true rfl, Nat.le_of_ble_eq_true rfl⟩ hP hK hN [0, 1, 2, 3, 4, 5, 6, 7, 8] [0, 1, 2, 3, 4, 5, 6, 7] rfl rfl 0 3 rfl rfl rfl (lv_nil hl) rfl (Nat.le_of_ble_eq_true rfl) dX3_byCard_47 ?_
    exact jr_iret hx hb hr hlocks dX3_byCard_50 (by simp only [j_X3_byCard, if_neg c_1])

