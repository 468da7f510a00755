/-! THE MODEL: methods that write (laid by wip/whole/rows.py) -/
abbrev rX3_draws : Room := { frames := 1, cells := 0, slots := 0, locals := 20 }
def j_X3_draws_uplace (uplace : Nat → Int32) (urow : Nat → Int32) (udrawn : Int32) (udealt : Int32) (x0 : Int32) : Nat → Int32 := (if j_X3_inPile udrawn udealt ≤ 0 then uplace else upd uplace (urow (((if 29 ≤ udrawn then 12 else 13 + udrawn) : Int32)).toNatClampNeg).toNatClampNeg x0)
def j_X3_draws_udrawn (udrawn : Int32) (udealt : Int32) : Int32 := (if j_X3_inPile udrawn udealt ≤ 0 then udrawn else udrawn + 1)
theorem inX3_draws_X3 : ∀ w ∈ u_ws RX3 TX3 15, w ∈ wsX3_draws := by decide +kernel
set_option maxRecDepth 100000 in
set_option maxHeartbeats 8000000 in
theorem c_X3_draws {l : Launch} {D : va_G} (b0 : Nat) (bP : Nat) (bR : Nat) (bS : Nat) (bT : Nat) (bG : Nat) (bW : Nat) (bH : Nat) (bO : Nat) (cP : ClassId) (cR : ClassId) (cS : ClassId) (cT : ClassId) (cG : ClassId) (cW : ClassId) (cH : ClassId) (cO : ClassId) (uplace : Nat → Int32) (urow : Nat → Int32) (upts : Nat → Int32) (utks : Nat → Int32) (uglv : Nat → Int32) (uwin : Nat → Int32) (uheld : Nat → Int32) (utab : Nat → Int32) (udrawn : Int32) (udealt : Int32) (uon : Int32) (uturn : Int32) (uled : Int32) (utr : Int32) (uthr : Int32) (x0 : Int32) (hd : ∃ k, k ≤ 30 ∧ udrawn = nI k) (hrw : ∀ j, j < 42 → vp_in (urow j) 42) : jWv l yX3_draws wsX3_draws rX3_draws D [.ref b0, .int x0] (jM b0 bP bR bS bT bG bW bH bO cP cR cS cT cG cW cH cO uplace urow upts utks uglv uwin uheld utab udrawn udealt uon uturn uled utr uthr) [(cP, .int), (cR, .int), (cS, .int), (cT, .int), (cG, .int), (cW, .int), (cH, .int), (cO, .int)] (jM b0 bP bR bS bT bG bW bH bO cP cR cS cT cG cW cH cO (j_X3_draws_uplace uplace urow udrawn udealt x0) urow upts utks uglv uwin uheld utab (j_X3_draws_udrawn udrawn udealt) udealt uon uturn uled utr uthr) := by
  refine jW_of (QQ := fun A => (jQv D (jM b0 bP bR bS bT bG bW bH bO cP cR cS cT cG cW cH cO (j_X3_draws_uplace uplace urow udrawn udealt x0) urow upts utks uglv uwin uheld utab (j_X3_draws_udrawn udrawn udealt) udealt uon uturn uled utr uthr) [(cP, .int), (cR, .int), (cS, .int), (cT, .int), (cG, .int), (cW, .int), (cH, .int), (cO, .int)] A)) (cc := cX3_draws) (maxL := 2) (ret := none) (by decide) rfl (Nat.le_of_ble_eq_true rfl) ?_
  intro p e s m below meth c ls A S hr hlocks hini hP hK hN hD hS hA hl
  obtain ⟨hx, hb, hml, hown, hts⟩ := id S
  have hl : lv_has ls 2 [(0, .ref b0), (1, .int x0)] := hl
  refine lv_aload_n hx hb dX3_draws_0 rfl (lv_at hl 0 rfl) ?_
  refine jr_callV (n := 0) (C := RX3) (As := []) (rest := []) S (c_X3_inPile b0 bP bR bS bT bG bW bH bO cP cR cS cT cG cW cH cO uplace urow upts utks uglv uwin uheld utab udrawn udealt uon uturn uled utr uthr) gX3_draws_X3_inPile rfl (by decide +kernel) rfl ⟨⟨rfl, rfl⟩, ⟨Nat.le_of_ble_eq_true rfl, Nat.le_of_ble_eq_true rfl⟩, Nat.le_of_ble_eq_true rfl, Nat.le_of_ble_eq_true rfl⟩ hP hK hN [0, 1, 2, 3, 4, 5, 6, 7, 8] [0, 1, 2, 3, 4, 5, 6, 7] rfl rfl 0 3 rfl rfl rfl (lv_nil hl) rfl (Nat.le_of_ble_eq_true rfl) dX3_draws_1 ?_
  refine lv_if_le (tgt := 49) hx hb dX3_draws_4 (by decide) (fun c_1 => ?_) (fun c_1 => ?_)
  · skip
    exact jw_vret hx hb hr hlocks hK hP hD hS dX3_draws_49 (by  simp only [j_X3_draws_uplace, j_X3_draws_udrawn, if_pos c_1])
  · skip
    refine lv_aload_n hx hb dX3_draws_7 rfl (lv_at hl 0 rfl) ?_
    refine va_get (D := D) (ci := 3) (v := .ref bP) (C := RX3) (T := TX3) (N := 15) hx hb hts inX3_draws_X3 hown hK hP 0 rfl rfl 0 (by decide) (hts (.fieldLink RX3 7 "ArchivistTricksModel" "place" "[I") (by decide +kernel)) (fun _ h9 => h9) rfl dX3_draws_8 ?_
    refine lv_aload_n hx hb dX3_draws_11 rfl (lv_at hl 0 rfl) ?_
    refine va_get (D := D) (ci := 3) (v := .ref bR) (C := RX3) (T := TX3) (N := 15) hx hb hts inX3_draws_X3 hown hK hP 0 rfl rfl 1 (by decide) (hts (.fieldLink RX3 13 "ArchivistTricksModel" "row" "[I") (by decide +kernel)) (fun _ h9 => h9) rfl dX3_draws_12 ?_
    refine lv_aload_n hx hb dX3_draws_15 rfl (lv_at hl 0 rfl) ?_
    refine va_get (D := D) (ci := 3) (v := .int udrawn) (C := RX3) (T := TX3) (N := 15) hx hb hts inX3_draws_X3 hown hK hP 0 rfl rfl 2 (by decide) (hts (.fieldLink RX3 62 "ArchivistTricksModel" "drawn" "I") (by decide +kernel)) (fun _ h9 => h9) rfl dX3_draws_16 ?_
    refine lv_bipush (v := 29) hx hb dX3_draws_19 (by decide) ?_
    have jn36 : W p l e rX3_draws s m ([.ref b0, .int x0] : List Value).toArray below meth c s.heap [] 0 0 (MQ below (jQv D (jM b0 bP bR bS bT bG bW bH bO cP cR cS cT cG cW cH cO (j_X3_draws_uplace uplace urow udrawn udealt x0) urow upts utks uglv uwin uheld utab (j_X3_draws_udrawn udrawn udealt) udealt uon uturn uled utr uthr) [(cP, .int), (cR, .int), (cS, .int), (cT, .int), (cG, .int), (cW, .int), (cH, .int), (cO, .int)] A) ([.ref b0, .int x0] : List Value).toArray s 0 0 A) (F0 m 36 ls (.int ((if 29 ≤ udrawn then 12 else 13 + udrawn) : Int32) :: [.ref bR, .ref bP])) := by
      refine va_iald hx hb hK hP 2 1 rfl rfl (i := ((if 29 ≤ udrawn then 12 else 13 + udrawn) : Int32)) (jx_dr hd) dX3_draws_36 ?_
      refine lv_iload_n hx hb dX3_draws_37 rfl (lv_at hl 1 rfl) ?_
      refine va_iast hx hb hK hP hD hS 1 0 rfl rfl (i := urow (((if 29 ≤ udrawn then 12 else 13 + udrawn) : Int32)).toNatClampNeg) (hrw _ (jx_inlt (jx_dr hd))) dX3_draws_38 (fun H locs hP hD hS => ?_)
      have hP : va_P D vwCl [(b0, .inr (3, [.ref bP, .ref bR, .int udrawn, .int udealt, .int uon, .int uturn, .int uled, .int utr, .ref bS, .ref bT, .ref bG, .ref bW, .int uthr, .ref bH, .ref bO])), (bP, .inl (cP, 42, .inl (upd uplace (urow (((if 29 ≤ udrawn then 12 else 13 + udrawn) : Int32)).toNatClampNeg).toNatClampNeg x0))), (bR, .inl (cR, 42, .inl urow)), (bS, .inl (cS, 2, .inl upts)), (bT, .inl (cT, 2, .inl utks)), (bG, .inl (cG, 2, .inl uglv)), (bW, .inl (cW, 2, .inl uwin)), (bH, .inl (cH, 12, .inl uheld)), (bO, .inl (cO, 8192, .inl utab))] H := hP
      have hD : va_D A [(b0, .inr (3, [.ref bP, .ref bR, .int udrawn, .int udealt, .int uon, .int uturn, .int uled, .int utr, .ref bS, .ref bT, .ref bG, .ref bW, .int uthr, .ref bH, .ref bO])), (bP, .inl (cP, 42, .inl (upd uplace (urow (((if 29 ≤ udrawn then 12 else 13 + udrawn) : Int32)).toNatClampNeg).toNatClampNeg x0))), (bR, .inl (cR, 42, .inl urow)), (bS, .inl (cS, 2, .inl upts)), (bT, .inl (cT, 2, .inl utks)), (bG, .inl (cG, 2, .inl uglv)), (bW, .inl (cW, 2, .inl uwin)), (bH, .inl (cH, 12, .inl uheld)), (bO, .inl (cO, 8192, .inl utab))] := hD
      refine lv_aload_n hx hb dX3_draws_39 rfl (lv_at hl 0 rfl) ?_
      refine lv_dup hx hb dX3_draws_40 rfl ?_
      refine va_get (D := D) (ci := 3) (v := .int udrawn) (C := RX3) (T := TX3) (N := 15) hx hb hts inX3_draws_X3 hown hK hP 0 rfl rfl 2 (by decide) (hts (.fieldLink RX3 62 "ArchivistTricksModel" "drawn" "I") (by decide +kernel)) (fun _ h9 => h9) rfl dX3_draws_41 ?_
      refine lv_iconst (v := 1) hx hb dX3_draws_44 (by decide) ?_
      refine lv_iadd hx hb dX3_draws_45 ?_
      refine va_put (D := D) (ci := 3) (v := .int (udrawn + 1)) (ty := .int) (C := RX3) (T := TX3) (N := 15) hx hb hts inX3_draws_X3 tyX3 tyX3_ok nmX3 hown hK hP hD hS 0 rfl rfl 2 (by decide) (hts (.fieldLink RX3 62 "ArchivistTricksModel" "drawn" "I") (by decide +kernel)) (fun _ h9 => h9) rfl (by decide +kernel) rfl rfl (Nat.le_of_ble_eq_true rfl) dX3_draws_46 (fun H locs hP hD hS => ?_)
      have hP : va_P D vwCl [(b0, .inr (3, [.ref bP, .ref bR, .int (udrawn + 1), .int udealt, .int uon, .int uturn, .int uled, .int utr, .ref bS, .ref bT, .ref bG, .ref bW, .int uthr, .ref bH, .ref bO])), (bP, .inl (cP, 42, .inl (upd uplace (urow (((if 29 ≤ udrawn then 12 else 13 + udrawn) : Int32)).toNatClampNeg).toNatClampNeg x0))), (bR, .inl (cR, 42, .inl urow)), (bS, .inl (cS, 2, .inl upts)), (bT, .inl (cT, 2, .inl utks)), (bG, .inl (cG, 2, .inl uglv)), (bW, .inl (cW, 2, .inl uwin)), (bH, .inl (cH, 12, .inl uheld)), (bO, .inl (cO, 8192, .inl utab))] H := hP
      have hD : va_D A [(b0, .inr (3, [.ref bP, .ref bR, .int (udrawn + 1), .int udealt, .int uon, .int uturn, .int uled, .int utr, .ref bS, .ref bT, .ref bG, .ref bW, .int uthr, .ref bH, .ref bO])), (bP, .inl (cP, 42, .inl (upd uplace (urow (((if 29 ≤ udrawn then 12 else 13 + udrawn) : Int32)).toNatClampNeg).toNatClampNeg x0))), (bR, .inl (cR, 42, .inl urow)), (bS, .inl (cS, 2, .inl upts)), (bT, .inl (cT, 2, .inl utks)), (bG, .inl (cG, 2, .inl uglv)), (bW, .inl (cW, 2, .inl uwin)), (bH, .inl (cH, 12, .inl uheld)), (bO, .inl (cO, 8192, .inl utab))] := hD
      exact jw_vret hx hb hr hlocks hK hP hD hS dX3_draws_49 (by  simp only [j_X3_draws_uplace, j_X3_draws_udrawn, if_neg c_1])
    refine lv_icmp_ge (tgt := 34) hx hb dX3_draws_21 (by decide) (fun c_2 => ?_) (fun c_2 => ?_)
    · skip
      refine lv_bipush (v := 12) hx hb dX3_draws_34 (by decide) ?_
      exact jr_eqi (by simp only [id, if_neg c_1, if_pos c_2]) jn36
    · skip
      refine lv_bipush (v := 13) hx hb dX3_draws_24 (by decide) ?_
      refine lv_aload_n hx hb dX3_draws_26 rfl (lv_at hl 0 rfl) ?_
      refine va_get (D := D) (ci := 3) (v := .int udrawn) (C := RX3) (T := TX3) (N := 15) hx hb hts inX3_draws_X3 hown hK hP 0 rfl rfl 2 (by decide) (hts (.fieldLink RX3 62 "ArchivistTricksModel" "drawn" "I") (by decide +kernel)) (fun _ h9 => h9) rfl dX3_draws_27 ?_
      refine lv_iadd hx hb dX3_draws_30 ?_
      refine lv_goto (tgt := 36) hx hb dX3_draws_31 (by decide) ?_
      exact jr_eqi (by simp only [id, if_neg c_1, if_neg c_2]) jn36

theorem jx_dr2 {udrawn udealt : Int32} (hd : ∃ k, k ≤ 30 ∧ udrawn = nI k) : ∃ k, k ≤ 30 ∧ j_X3_draws_udrawn udrawn udealt = nI k := by
  obtain ⟨k, hk, e⟩ := hd
  unfold j_X3_draws_udrawn
  by_cases h : j_X3_inPile udrawn udealt ≤ 0
  · rw [if_pos h]; exact ⟨k, hk, e⟩
  · rw [if_neg h]
    have hk' : k < 30 := by
      rcases Nat.lt_or_ge k 30 with q | q
      · exact q
      · exfalso
        apply h
        have : k = 30 := by omega
        subst this
        rw [e]; unfold j_X3_inPile
        by_cases h0 : udealt = 0
        · rw [if_pos h0]; decide
        · rw [if_neg h0]; decide
    exact ⟨k + 1, hk', by rw [e]; exact nI_1 k⟩

