/-! THE CLASS: its face, where it does not throw (laid by wip/p24/rows.py) -/
abbrev rX2_whyNot : Room := { frames := 3, cells := 0, slots := 0, locals := 73 }
def j_X2_whyNot (vdrawn : Int32) (vtr : Int32) (vled : Int32) (vmov : Int32) (vh1 : Int64) (vh2 : Int64) (x0 : Int32) : Int32 := j_X2_reasonAgainst vdrawn vtr vled vmov vh1 vh2 x0
set_option maxRecDepth 100000 in
set_option maxHeartbeats 4000000 in
theorem c_X2_whyNot {l : Launch} {D : va_G} (a0 : Nat) (aR : Nat) (aF : Nat) (aG : Nat) (cI : ClassId) (vrow : Nat → Int32) (vdrawn : Int32) (vtr : Int32) (vled : Int32) (vmov : Int32) (vw1 : Int32) (vw2 : Int32) (veo : Option Nat) (veb : Int32) (vh1 : Int64) (vt1 : Int64) (vp1 : Int32) (vk1 : Int32) (vg1 : Int32) (vh2 : Int64) (vt2 : Int64) (vp2 : Int32) (vk2 : Int32) (vg2 : Int32) (x0 : Int32) (h0 : ¬ (j_X2_isCard x0 = 0)) : jR l yX2_whyNot wsX2_whyNot rX2_whyNot D [.ref a0, .int x0] (jC a0 aR aF aG cI vrow vdrawn vtr vled vmov vw1 vw2 veo veb vh1 vt1 vp1 vk1 vg1 vh2 vt2 vp2 vk2 vg2) [(cI, .int)] (.int (j_X2_whyNot vdrawn vtr vled vmov vh1 vh2 x0)) := by
  refine jR_of (cc := cX2_whyNot) (maxL := 2) (ret := (some .int)) (by decide) rfl (Nat.le_of_ble_eq_true rfl) ?_
  intro p e s m below meth c ls S hr hlocks hP hK hN hl
  obtain ⟨hx, hb, hml, hown, hts⟩ := id S
  have hl : lv_has ls 2 [(0, .ref a0), (1, .int x0)] := hl
  refine lv_iload_n hx hb dX2_whyNot_0 rfl (lv_at hl 1 rfl) ?_
  refine jr_callS (n := 1) (As := [.int x0]) (rest := []) S (c_X2_isCard x0) gX2_whyNot_X2_isCard rfl (by decide +kernel) rfl ⟨⟨rfl, rfl⟩, ⟨Nat.le_of_ble_eq_true rfl, Nat.le_of_ble_eq_true rfl⟩, Nat.le_of_ble_eq_true rfl, Nat.le_of_ble_eq_true rfl⟩ hP hK hN [] [] rfl rfl (lv_nil hl) rfl (Nat.le_of_ble_eq_true rfl) dX2_whyNot_1 ?_
  refine lv_if_ne (tgt := 17) hx hb dX2_whyNot_4 (by decide) (fun _ => ?_) (fun c_ => absurd c_ h0)
  refine lv_aload_n hx hb dX2_whyNot_17 rfl (lv_at hl 0 rfl) ?_
  refine lv_iload_n hx hb dX2_whyNot_18 rfl (lv_at hl 1 rfl) ?_
  refine jr_callV (n := 1) (C := RX2) (As := [.int x0]) (rest := []) S (c_X2_reasonAgainst a0 aR aF aG cI vrow vdrawn vtr vled vmov vw1 vw2 veo veb vh1 vt1 vp1 vk1 vg1 vh2 vt2 vp2 vk2 vg2 x0) gX2_whyNot_X2_reasonAgainst rfl (by decide +kernel) rfl ⟨⟨rfl, rfl⟩, ⟨Nat.le_of_ble_eq_true rfl, Nat.le_of_ble_eq_true rfl⟩, Nat.le_of_ble_eq_true rfl, Nat.le_of_ble_eq_true rfl⟩ hP hK hN [0, 1, 2, 3] [0] rfl rfl 0 2 rfl rfl rfl (lv_nil hl) rfl (Nat.le_of_ble_eq_true rfl) dX2_whyNot_19 ?_
  exact jr_iret hx hb hr hlocks dX2_whyNot_22 (by simp only [j_X2_whyNot, if_neg h0])

abbrev rX2_cards : Room := { frames := 1, cells := 0, slots := 0, locals := 21 }
def j_X2_cards (vh1 : Int64) (vh2 : Int64) (x0 : Int32) : Int32 := (if x0 = 0 then j_J13_bitCount_95d88 vh1 else j_J13_bitCount_95d88 vh2)
theorem inX2_cards_X0 : ∀ w ∈ u_ws RX0 TX0 5, w ∈ wsX2_cards := by decide +kernel
set_option maxRecDepth 100000 in
set_option maxHeartbeats 4000000 in
theorem c_X2_cards {l : Launch} {D : va_G} (a0 : Nat) (aR : Nat) (aF : Nat) (aG : Nat) (cI : ClassId) (vrow : Nat → Int32) (vdrawn : Int32) (vtr : Int32) (vled : Int32) (vmov : Int32) (vw1 : Int32) (vw2 : Int32) (veo : Option Nat) (veb : Int32) (vh1 : Int64) (vt1 : Int64) (vp1 : Int32) (vk1 : Int32) (vg1 : Int32) (vh2 : Int64) (vt2 : Int64) (vp2 : Int32) (vk2 : Int32) (vg2 : Int32) (x0 : Int32) (h0 : ¬ (j_X2_isArchivist x0 = 0)) : jR l yX2_cards wsX2_cards rX2_cards D [.ref a0, .int x0] (jC a0 aR aF aG cI vrow vdrawn vtr vled vmov vw1 vw2 veo veb vh1 vt1 vp1 vk1 vg1 vh2 vt2 vp2 vk2 vg2) [(cI, .int)] (.int (j_X2_cards vh1 vh2 x0)) := by
  refine jR_of (cc := cX2_cards) (maxL := 2) (ret := (some .int)) (by decide) rfl (Nat.le_of_ble_eq_true rfl) ?_
  intro p e s m below meth c ls S hr hlocks hP hK hN hl
  obtain ⟨hx, hb, hml, hown, hts⟩ := id S
  have hl : lv_has ls 2 [(0, .ref a0), (1, .int x0)] := hl
  refine lv_iload_n hx hb dX2_cards_0 rfl (lv_at hl 1 rfl) ?_
  refine jr_callS (n := 1) (As := [.int x0]) (rest := []) S (c_X2_isArchivist x0) gX2_cards_X2_isArchivist rfl (by decide +kernel) rfl ⟨⟨rfl, rfl⟩, ⟨Nat.le_of_ble_eq_true rfl, Nat.le_of_ble_eq_true rfl⟩, Nat.le_of_ble_eq_true rfl, Nat.le_of_ble_eq_true rfl⟩ hP hK hN [] [] rfl rfl (lv_nil hl) rfl (Nat.le_of_ble_eq_true rfl) dX2_cards_1 ?_
  refine lv_if_ne (tgt := 17) hx hb dX2_cards_4 (by decide) (fun _ => ?_) (fun c_ => absurd c_ h0)
  refine lv_aload_n hx hb dX2_cards_17 rfl (lv_at hl 0 rfl) ?_
  refine lv_iload_n hx hb dX2_cards_18 rfl (lv_at hl 1 rfl) ?_
  refine jr_callV (n := 1) (C := RX2) (As := [.int x0]) (rest := []) S (c_X2_archivist a0 aR aF aG cI vrow vdrawn vtr vled vmov vw1 vw2 veo veb vh1 vt1 vp1 vk1 vg1 vh2 vt2 vp2 vk2 vg2 x0) gX2_cards_X2_archivist rfl (by decide +kernel) rfl ⟨⟨rfl, rfl⟩, ⟨Nat.le_of_ble_eq_true rfl, Nat.le_of_ble_eq_true rfl⟩, Nat.le_of_ble_eq_true rfl, Nat.le_of_ble_eq_true rfl⟩ hP hK hN [0, 1, 2, 3] [0] rfl rfl 0 2 rfl rfl rfl (lv_nil hl) rfl (Nat.le_of_ble_eq_true rfl) dX2_cards_19 ?_
  refine jr_ite (c0 := x0 = 0) (a := aF) (b := aG) rfl (fun c_1 => ?_) (fun c_1 => ?_)
  · skip
    refine va_get (D := D) (ci := 0) (v := .long vh1) (C := RX0) (T := TX0) (N := 5) hx hb hts inX2_cards_X0 hown hK hP 1 rfl rfl 0 (by decide) (hts (.fieldLink RX2 91 "ArchivistTricks$Archivist" "hand" "J") (by decide +kernel)) (fun _ h9 => h9) rfl dX2_cards_22 ?_
    refine jr_callS (n := 1) (As := [.long vh1]) (rest := []) S (c_J13_bitCount_95d88 vh1) gX2_cards_J13_bitCount_95d88 rfl (by decide +kernel) rfl ⟨⟨rfl, rfl⟩, ⟨Nat.le_of_ble_eq_true rfl, Nat.le_of_ble_eq_true rfl⟩, Nat.le_of_ble_eq_true rfl, Nat.le_of_ble_eq_true rfl⟩ hP hK hN [] [] rfl rfl (lv_nil hl) rfl (Nat.le_of_ble_eq_true rfl) dX2_cards_25 ?_
    exact jr_iret hx hb hr hlocks dX2_cards_28 (by simp only [j_X2_cards, if_neg h0, if_pos c_1])
  · skip
    refine va_get (D := D) (ci := 0) (v := .long vh2) (C := RX0) (T := TX0) (N := 5) hx hb hts inX2_cards_X0 hown hK hP 2 rfl rfl 0 (by decide) (hts (.fieldLink RX2 91 "ArchivistTricks$Archivist" "hand" "J") (by decide +kernel)) (fun _ h9 => h9) rfl dX2_cards_22 ?_
    refine jr_callS (n := 1) (As := [.long vh2]) (rest := []) S (c_J13_bitCount_95d88 vh2) gX2_cards_J13_bitCount_95d88 rfl (by decide +kernel) rfl ⟨⟨rfl, rfl⟩, ⟨Nat.le_of_ble_eq_true rfl, Nat.le_of_ble_eq_true rfl⟩, Nat.le_of_ble_eq_true rfl, Nat.le_of_ble_eq_true rfl⟩ hP hK hN [] [] rfl rfl (lv_nil hl) rfl (Nat.le_of_ble_eq_true rfl) dX2_cards_25 ?_
    exact jr_iret hx hb hr hlocks dX2_cards_28 (by simp only [j_X2_cards, if_neg h0, if_neg c_1])

abbrev rX2_placeOf : Room := { frames := 1, cells := 0, slots := 0, locals := 22 }
def j_X2_placeOf (vtr : Int32) (vled : Int32) (vh1 : Int64) (vt1 : Int64) (vh2 : Int64) (vt2 : Int64) (x0 : Int32) : Int32 := (if vtr = (-1) then (-1) else (if j_X2_has vh1 x0 = 0 then (if j_X2_has vh2 x0 = 0 then (if j_X2_has vt1 x0 = 0 then (if j_X2_has vt2 x0 = 0 then (if x0 = vled then 3 else 2) else 5) else 4) else 1) else 0))
theorem inX2_placeOf_X0 : ∀ w ∈ u_ws RX0 TX0 5, w ∈ wsX2_placeOf := by decide +kernel
theorem inX2_placeOf_X2 : ∀ w ∈ u_ws RX2 TX2 11, w ∈ wsX2_placeOf := by decide +kernel
set_option maxRecDepth 100000 in
set_option maxHeartbeats 4000000 in
theorem c_X2_placeOf {l : Launch} {D : va_G} (a0 : Nat) (aR : Nat) (aF : Nat) (aG : Nat) (cI : ClassId) (vrow : Nat → Int32) (vdrawn : Int32) (vtr : Int32) (vled : Int32) (vmov : Int32) (vw1 : Int32) (vw2 : Int32) (veo : Option Nat) (veb : Int32) (vh1 : Int64) (vt1 : Int64) (vp1 : Int32) (vk1 : Int32) (vg1 : Int32) (vh2 : Int64) (vt2 : Int64) (vp2 : Int32) (vk2 : Int32) (vg2 : Int32) (x0 : Int32) (h0 : ¬ (j_X2_isCard x0 = 0)) : jR l yX2_placeOf wsX2_placeOf rX2_placeOf D [.ref a0, .int x0] (jC a0 aR aF aG cI vrow vdrawn vtr vled vmov vw1 vw2 veo veb vh1 vt1 vp1 vk1 vg1 vh2 vt2 vp2 vk2 vg2) [(cI, .int)] (.int (j_X2_placeOf vtr vled vh1 vt1 vh2 vt2 x0)) := by
  refine jR_of (cc := cX2_placeOf) (maxL := 2) (ret := (some .int)) (by decide) rfl (Nat.le_of_ble_eq_true rfl) ?_
  intro p e s m below meth c ls S hr hlocks hP hK hN hl
  obtain ⟨hx, hb, hml, hown, hts⟩ := id S
  have hl : lv_has ls 2 [(0, .ref a0), (1, .int x0)] := hl
  refine lv_iload_n hx hb dX2_placeOf_0 rfl (lv_at hl 1 rfl) ?_
  refine jr_callS (n := 1) (As := [.int x0]) (rest := []) S (c_X2_isCard x0) gX2_placeOf_X2_isCard rfl (by decide +kernel) rfl ⟨⟨rfl, rfl⟩, ⟨Nat.le_of_ble_eq_true rfl, Nat.le_of_ble_eq_true rfl⟩, Nat.le_of_ble_eq_true rfl, Nat.le_of_ble_eq_true rfl⟩ hP hK hN [] [] rfl rfl (lv_nil hl) rfl (Nat.le_of_ble_eq_true rfl) dX2_placeOf_1 ?_
  refine lv_if_ne (tgt := 17) hx hb dX2_placeOf_4 (by decide) (fun _ => ?_) (fun c_ => absurd c_ h0)
  refine lv_aload_n hx hb dX2_placeOf_17 rfl (lv_at hl 0 rfl) ?_
  refine va_get (D := D) (ci := 2) (v := .int vtr) (C := RX2) (T := TX2) (N := 11) hx hb hts inX2_placeOf_X2 hown hK hP 0 rfl rfl 4 (by decide) (hts (.fieldLink RX2 27 "ArchivistTricks" "trumpProvenance" "I") (by decide +kernel)) (fun _ h9 => h9) rfl dX2_placeOf_18 ?_
  refine lv_iconst (v := (-1)) hx hb dX2_placeOf_21 (by decide) ?_
  refine lv_icmp_ne (tgt := 27) hx hb dX2_placeOf_22 (by decide) (fun c_1 => ?_) (fun c_1 => ?_)
  · skip
    refine lv_aload_n hx hb dX2_placeOf_27 rfl (lv_at hl 0 rfl) ?_
    refine va_get (D := D) (ci := 2) (v := .ref aF) (C := RX2) (T := TX2) (N := 11) hx hb hts inX2_placeOf_X2 hown hK hP 0 rfl rfl 1 (by decide) (hts (.fieldLink RX2 16 "ArchivistTricks" "first" "LArchivistTricks$Archivist;") (by decide +kernel)) (fun _ h9 => h9) rfl dX2_placeOf_28 ?_
    refine va_get (D := D) (ci := 0) (v := .long vh1) (C := RX0) (T := TX0) (N := 5) hx hb hts inX2_placeOf_X0 hown hK hP 1 rfl rfl 0 (by decide) (hts (.fieldLink RX2 91 "ArchivistTricks$Archivist" "hand" "J") (by decide +kernel)) (fun _ h9 => h9) rfl dX2_placeOf_31 ?_
    refine lv_iload_n hx hb dX2_placeOf_34 rfl (lv_at hl 1 rfl) ?_
    refine jr_callS (n := 2) (As := [.long vh1, .int x0]) (rest := []) S (c_X2_has vh1 x0) gX2_placeOf_X2_has rfl (by decide +kernel) rfl ⟨⟨rfl, rfl⟩, ⟨Nat.le_of_ble_eq_true rfl, Nat.le_of_ble_eq_true rfl⟩, Nat.le_of_ble_eq_true rfl, Nat.le_of_ble_eq_true rfl⟩ hP hK hN [] [] rfl rfl (lv_nil hl) rfl (Nat.le_of_ble_eq_true rfl) dX2_placeOf_35 ?_
    refine lv_if_eq (tgt := 43) hx hb dX2_placeOf_38 (by decide) (fun c_2 => ?_) (fun c_2 => ?_)
    · skip
      refine lv_aload_n hx hb dX2_placeOf_43 rfl (lv_at hl 0 rfl) ?_
      refine va_get (D := D) (ci := 2) (v := .ref aG) (C := RX2) (T := TX2) (N := 11) hx hb hts inX2_placeOf_X2 hown hK hP 0 rfl rfl 2 (by decide) (hts (.fieldLink RX2 20 "ArchivistTricks" "second" "LArchivistTricks$Archivist;") (by decide +kernel)) (fun _ h9 => h9) rfl dX2_placeOf_44 ?_
      refine va_get (D := D) (ci := 0) (v := .long vh2) (C := RX0) (T := TX0) (N := 5) hx hb hts inX2_placeOf_X0 hown hK hP 2 rfl rfl 0 (by decide) (hts (.fieldLink RX2 91 "ArchivistTricks$Archivist" "hand" "J") (by decide +kernel)) (fun _ h9 => h9) rfl dX2_placeOf_47 ?_
      refine lv_iload_n hx hb dX2_placeOf_50 rfl (lv_at hl 1 rfl) ?_
      refine jr_callS (n := 2) (As := [.long vh2, .int x0]) (rest := []) S (c_X2_has vh2 x0) gX2_placeOf_X2_has rfl (by decide +kernel) rfl ⟨⟨rfl, rfl⟩, ⟨Nat.le_of_ble_eq_true rfl, Nat.le_of_ble_eq_true rfl⟩, Nat.le_of_ble_eq_true rfl, Nat.le_of_ble_eq_true rfl⟩ hP hK hN [] [] rfl rfl (lv_nil hl) rfl (Nat.le_of_ble_eq_true rfl) dX2_placeOf_51 ?_
      refine lv_if_eq (tgt := 59) hx hb dX2_placeOf_54 (by decide) (fun c_3 => ?_) (fun c_3 => ?_)
      · skip
        refine lv_aload_n hx hb dX2_placeOf_59 rfl (lv_at hl 0 rfl) ?_
        refine va_get (D := D) (ci := 2) (v := .ref aF) (C := RX2) (T := TX2) (N := 11) hx hb hts inX2_placeOf_X2 hown hK hP 0 rfl rfl 1 (by decide) (hts (.fieldLink RX2 16 "ArchivistTricks" "first" "LArchivistTricks$Archivist;") (by decide +kernel)) (fun _ h9 => h9) rfl dX2_placeOf_60 ?_
        refine va_get (D := D) (ci := 0) (v := .long vt1) (C := RX0) (T := TX0) (N := 5) hx hb hts inX2_placeOf_X0 hown hK hP 1 rfl rfl 1 (by decide) (hts (.fieldLink RX2 130 "ArchivistTricks$Archivist" "taken" "J") (by decide +kernel)) (fun _ h9 => h9) rfl dX2_placeOf_63 ?_
        refine lv_iload_n hx hb dX2_placeOf_66 rfl (lv_at hl 1 rfl) ?_
        refine jr_callS (n := 2) (As := [.long vt1, .int x0]) (rest := []) S (c_X2_has vt1 x0) gX2_placeOf_X2_has rfl (by decide +kernel) rfl ⟨⟨rfl, rfl⟩, ⟨Nat.le_of_ble_eq_true rfl, Nat.le_of_ble_eq_true rfl⟩, Nat.le_of_ble_eq_true rfl, Nat.le_of_ble_eq_true rfl⟩ hP hK hN [] [] rfl rfl (lv_nil hl) rfl (Nat.le_of_ble_eq_true rfl) dX2_placeOf_67 ?_
        refine lv_if_eq (tgt := 75) hx hb dX2_placeOf_70 (by decide) (fun c_4 => ?_) (fun c_4 => ?_)
        · skip
          refine lv_aload_n hx hb dX2_placeOf_75 rfl (lv_at hl 0 rfl) ?_
          refine va_get (D := D) (ci := 2) (v := .ref aG) (C := RX2) (T := TX2) (N := 11) hx hb hts inX2_placeOf_X2 hown hK hP 0 rfl rfl 2 (by decide) (hts (.fieldLink RX2 20 "ArchivistTricks" "second" "LArchivistTricks$Archivist;") (by decide +kernel)) (fun _ h9 => h9) rfl dX2_placeOf_76 ?_
          refine va_get (D := D) (ci := 0) (v := .long vt2) (C := RX0) (T := TX0) (N := 5) hx hb hts inX2_placeOf_X0 hown hK hP 2 rfl rfl 1 (by decide) (hts (.fieldLink RX2 130 "ArchivistTricks$Archivist" "taken" "J") (by decide +kernel)) (fun _ h9 => h9) rfl dX2_placeOf_79 ?_
          refine lv_iload_n hx hb dX2_placeOf_82 rfl (lv_at hl 1 rfl) ?_
          refine jr_callS (n := 2) (As := [.long vt2, .int x0]) (rest := []) S (c_X2_has vt2 x0) gX2_placeOf_X2_has rfl (by decide +kernel) rfl ⟨⟨rfl, rfl⟩, ⟨Nat.le_of_ble_eq_true rfl, Nat.le_of_ble_eq_true rfl⟩, Nat.le_of_ble_eq_true rfl, Nat.le_of_ble_eq_true rfl⟩ hP hK hN [] [] rfl rfl (lv_nil hl) rfl (Nat.le_of_ble_eq_true rfl) dX2_placeOf_83 ?_
          refine lv_if_eq (tgt := 91) hx hb dX2_placeOf_86 (by decide) (fun c_5 => ?_) (fun c_5 => ?_)
          · skip
            refine lv_iload_n hx hb dX2_placeOf_91 rfl (lv_at hl 1 rfl) ?_
            refine lv_aload_n hx hb dX2_placeOf_92 rfl (lv_at hl 0 rfl) ?_
            refine va_get (D := D) (ci := 2) (v := .int vled) (C := RX2) (T := TX2) (N := 11) hx hb hts inX2_placeOf_X2 hown hK hP 0 rfl rfl 5 (by decide) (hts (.fieldLink RX2 30 "ArchivistTricks" "ledCard" "I") (by decide +kernel)) (fun _ h9 => h9) rfl dX2_placeOf_93 ?_
            refine lv_icmp_ne (tgt := 103) hx hb dX2_placeOf_96 (by decide) (fun c_6 => ?_) (fun c_6 => ?_)
            · skip
              refine lv_iconst (v := 2) hx hb dX2_placeOf_103 (by decide) ?_
              exact jr_iret hx hb hr hlocks dX2_placeOf_104 (by simp only [j_X2_placeOf, if_neg h0, if_neg c_1, if_pos c_2, if_pos c_3, if_pos c_4, if_pos c_5, if_neg c_6])
            · skip
              refine lv_iconst (v := 3) hx hb dX2_placeOf_99 (by decide) ?_
              refine lv_goto (tgt := 104) hx hb dX2_placeOf_100 (by decide) ?_
              exact jr_iret hx hb hr hlocks dX2_placeOf_104 (by simp only [j_X2_placeOf, if_neg h0, if_neg c_1, if_pos c_2, if_pos c_3, if_pos c_4, if_pos c_5, if_pos c_6])
          · skip
            refine lv_iconst (v := 5) hx hb dX2_placeOf_89 (by decide) ?_
            exact jr_iret hx hb hr hlocks dX2_placeOf_90 (by simp only [j_X2_placeOf, if_neg h0, if_neg c_1, if_pos c_2, if_pos c_3, if_pos c_4, if_neg c_5])
        · skip
          refine lv_iconst (v := 4) hx hb dX2_placeOf_73 (by decide) ?_
          exact jr_iret hx hb hr hlocks dX2_placeOf_74 (by simp only [j_X2_placeOf, if_neg h0, if_neg c_1, if_pos c_2, if_pos c_3, if_neg c_4])
      · skip
        refine lv_iconst (v := 1) hx hb dX2_placeOf_57 (by decide) ?_
        exact jr_iret hx hb hr hlocks dX2_placeOf_58 (by simp only [j_X2_placeOf, if_neg h0, if_neg c_1, if_pos c_2, if_neg c_3])
    · skip
      refine lv_iconst (v := 0) hx hb dX2_placeOf_41 (by decide) ?_
      exact jr_iret hx hb hr hlocks dX2_placeOf_42 (by simp only [j_X2_placeOf, if_neg h0, if_neg c_1, if_neg c_2])
  · skip
    refine lv_iconst (v := (-1)) hx hb dX2_placeOf_25 (by decide) ?_
    exact jr_iret hx hb hr hlocks dX2_placeOf_26 (by simp only [j_X2_placeOf, if_neg h0, if_pos c_1])

abbrev rX2_points : Room := { frames := 1, cells := 0, slots := 0, locals := 21 }
def j_X2_points (vp1 : Int32) (vp2 : Int32) (x0 : Int32) : Int32 := (if x0 = 0 then vp1 else vp2)
theorem inX2_points_X0 : ∀ w ∈ u_ws RX0 TX0 5, w ∈ wsX2_points := by decide +kernel
set_option maxRecDepth 100000 in
set_option maxHeartbeats 4000000 in
theorem c_X2_points {l : Launch} {D : va_G} (a0 : Nat) (aR : Nat) (aF : Nat) (aG : Nat) (cI : ClassId) (vrow : Nat → Int32) (vdrawn : Int32) (vtr : Int32) (vled : Int32) (vmov : Int32) (vw1 : Int32) (vw2 : Int32) (veo : Option Nat) (veb : Int32) (vh1 : Int64) (vt1 : Int64) (vp1 : Int32) (vk1 : Int32) (vg1 : Int32) (vh2 : Int64) (vt2 : Int64) (vp2 : Int32) (vk2 : Int32) (vg2 : Int32) (x0 : Int32) (h0 : ¬ (j_X2_isArchivist x0 = 0)) : jR l yX2_points wsX2_points rX2_points D [.ref a0, .int x0] (jC a0 aR aF aG cI vrow vdrawn vtr vled vmov vw1 vw2 veo veb vh1 vt1 vp1 vk1 vg1 vh2 vt2 vp2 vk2 vg2) [(cI, .int)] (.int (j_X2_points vp1 vp2 x0)) := by
  refine jR_of (cc := cX2_points) (maxL := 2) (ret := (some .int)) (by decide) rfl (Nat.le_of_ble_eq_true rfl) ?_
  intro p e s m below meth c ls S hr hlocks hP hK hN hl
  obtain ⟨hx, hb, hml, hown, hts⟩ := id S
  have hl : lv_has ls 2 [(0, .ref a0), (1, .int x0)] := hl
  refine lv_iload_n hx hb dX2_points_0 rfl (lv_at hl 1 rfl) ?_
  refine jr_callS (n := 1) (As := [.int x0]) (rest := []) S (c_X2_isArchivist x0) gX2_points_X2_isArchivist rfl (by decide +kernel) rfl ⟨⟨rfl, rfl⟩, ⟨Nat.le_of_ble_eq_true rfl, Nat.le_of_ble_eq_true rfl⟩, Nat.le_of_ble_eq_true rfl, Nat.le_of_ble_eq_true rfl⟩ hP hK hN [] [] rfl rfl (lv_nil hl) rfl (Nat.le_of_ble_eq_true rfl) dX2_points_1 ?_
  refine lv_if_ne (tgt := 17) hx hb dX2_points_4 (by decide) (fun _ => ?_) (fun c_ => absurd c_ h0)
  refine lv_aload_n hx hb dX2_points_17 rfl (lv_at hl 0 rfl) ?_
  refine lv_iload_n hx hb dX2_points_18 rfl (lv_at hl 1 rfl) ?_
  refine jr_callV (n := 1) (C := RX2) (As := [.int x0]) (rest := []) S (c_X2_archivist a0 aR aF aG cI vrow vdrawn vtr vled vmov vw1 vw2 veo veb vh1 vt1 vp1 vk1 vg1 vh2 vt2 vp2 vk2 vg2 x0) gX2_points_X2_archivist rfl (by decide +kernel) rfl ⟨⟨rfl, rfl⟩, ⟨Nat.le_of_ble_eq_true rfl, Nat.le_of_ble_eq_true rfl⟩, Nat.le_of_ble_eq_true rfl, Nat.le_of_ble_eq_true rfl⟩ hP hK hN [0, 1, 2, 3] [0] rfl rfl 0 2 rfl rfl rfl (lv_nil hl) rfl (Nat.le_of_ble_eq_true rfl) dX2_points_19 ?_
  refine jr_ite (c0 := x0 = 0) (a := aF) (b := aG) rfl (fun c_1 => ?_) (fun c_1 => ?_)
  · skip
    refine va_get (D := D) (ci := 0) (v := .int vp1) (C := RX0) (T := TX0) (N := 5) hx hb hts inX2_points_X0 hown hK hP 1 rfl rfl 2 (by decide) (hts (.fieldLink RX2 133 "ArchivistTricks$Archivist" "points" "I") (by decide +kernel)) (fun _ h9 => h9) rfl dX2_points_22 ?_
    exact jr_iret hx hb hr hlocks dX2_points_25 (by simp only [j_X2_points, if_neg h0, if_pos c_1])
  · skip
    refine va_get (D := D) (ci := 0) (v := .int vp2) (C := RX0) (T := TX0) (N := 5) hx hb hts inX2_points_X0 hown hK hP 2 rfl rfl 2 (by decide) (hts (.fieldLink RX2 133 "ArchivistTricks$Archivist" "points" "I") (by decide +kernel)) (fun _ h9 => h9) rfl dX2_points_22 ?_
    exact jr_iret hx hb hr hlocks dX2_points_25 (by simp only [j_X2_points, if_neg h0, if_neg c_1])

abbrev rX2_tricks : Room := { frames := 1, cells := 0, slots := 0, locals := 21 }
def j_X2_tricks (vk1 : Int32) (vk2 : Int32) (x0 : Int32) : Int32 := (if x0 = 0 then vk1 else vk2)
theorem inX2_tricks_X0 : ∀ w ∈ u_ws RX0 TX0 5, w ∈ wsX2_tricks := by decide +kernel
set_option maxRecDepth 100000 in
set_option maxHeartbeats 4000000 in
theorem c_X2_tricks {l : Launch} {D : va_G} (a0 : Nat) (aR : Nat) (aF : Nat) (aG : Nat) (cI : ClassId) (vrow : Nat → Int32) (vdrawn : Int32) (vtr : Int32) (vled : Int32) (vmov : Int32) (vw1 : Int32) (vw2 : Int32) (veo : Option Nat) (veb : Int32) (vh1 : Int64) (vt1 : Int64) (vp1 : Int32) (vk1 : Int32) (vg1 : Int32) (vh2 : Int64) (vt2 : Int64) (vp2 : Int32) (vk2 : Int32) (vg2 : Int32) (x0 : Int32) (h0 : ¬ (j_X2_isArchivist x0 = 0)) : jR l yX2_tricks wsX2_tricks rX2_tricks D [.ref a0, .int x0] (jC a0 aR aF aG cI vrow vdrawn vtr vled vmov vw1 vw2 veo veb vh1 vt1 vp1 vk1 vg1 vh2 vt2 vp2 vk2 vg2) [(cI, .int)] (.int (j_X2_tricks vk1 vk2 x0)) := by
  refine jR_of (cc := cX2_tricks) (maxL := 2) (ret := (some .int)) (by decide) rfl (Nat.le_of_ble_eq_true rfl) ?_
  intro p e s m below meth c ls S hr hlocks hP hK hN hl
  obtain ⟨hx, hb, hml, hown, hts⟩ := id S
  have hl : lv_has ls 2 [(0, .ref a0), (1, .int x0)] := hl
  refine lv_iload_n hx hb dX2_tricks_0 rfl (lv_at hl 1 rfl) ?_
  refine jr_callS (n := 1) (As := [.int x0]) (rest := []) S (c_X2_isArchivist x0) gX2_tricks_X2_isArchivist rfl (by decide +kernel) rfl ⟨⟨rfl, rfl⟩, ⟨Nat.le_of_ble_eq_true rfl, Nat.le_of_ble_eq_true rfl⟩, Nat.le_of_ble_eq_true rfl, Nat.le_of_ble_eq_true rfl⟩ hP hK hN [] [] rfl rfl (lv_nil hl) rfl (Nat.le_of_ble_eq_true rfl) dX2_tricks_1 ?_
  refine lv_if_ne (tgt := 17) hx hb dX2_tricks_4 (by decide) (fun _ => ?_) (fun c_ => absurd c_ h0)
  refine lv_aload_n hx hb dX2_tricks_17 rfl (lv_at hl 0 rfl) ?_
  refine lv_iload_n hx hb dX2_tricks_18 rfl (lv_at hl 1 rfl) ?_
  refine jr_callV (n := 1) (C := RX2) (As := [.int x0]) (rest := []) S (c_X2_archivist a0 aR aF aG cI vrow vdrawn vtr vled vmov vw1 vw2 veo veb vh1 vt1 vp1 vk1 vg1 vh2 vt2 vp2 vk2 vg2 x0) gX2_tricks_X2_archivist rfl (by decide +kernel) rfl ⟨⟨rfl, rfl⟩, ⟨Nat.le_of_ble_eq_true rfl, Nat.le_of_ble_eq_true rfl⟩, Nat.le_of_ble_eq_true rfl, Nat.le_of_ble_eq_true rfl⟩ hP hK hN [0, 1, 2, 3] [0] rfl rfl 0 2 rfl rfl rfl (lv_nil hl) rfl (Nat.le_of_ble_eq_true rfl) dX2_tricks_19 ?_
  refine jr_ite (c0 := x0 = 0) (a := aF) (b := aG) rfl (fun c_1 => ?_) (fun c_1 => ?_)
  · skip
    refine va_get (D := D) (ci := 0) (v := .int vk1) (C := RX0) (T := TX0) (N := 5) hx hb hts inX2_tricks_X0 hown hK hP 1 rfl rfl 3 (by decide) (hts (.fieldLink RX2 136 "ArchivistTricks$Archivist" "tricks" "I") (by decide +kernel)) (fun _ h9 => h9) rfl dX2_tricks_22 ?_
    exact jr_iret hx hb hr hlocks dX2_tricks_25 (by simp only [j_X2_tricks, if_neg h0, if_pos c_1])
  · skip
    refine va_get (D := D) (ci := 0) (v := .int vk2) (C := RX0) (T := TX0) (N := 5) hx hb hts inX2_tricks_X0 hown hK hP 2 rfl rfl 3 (by decide) (hts (.fieldLink RX2 136 "ArchivistTricks$Archivist" "tricks" "I") (by decide +kernel)) (fun _ h9 => h9) rfl dX2_tricks_22 ?_
    exact jr_iret hx hb hr hlocks dX2_tricks_25 (by simp only [j_X2_tricks, if_neg h0, if_neg c_1])

abbrev rX2_gloves : Room := { frames := 1, cells := 0, slots := 0, locals := 21 }
def j_X2_gloves (vg1 : Int32) (vg2 : Int32) (x0 : Int32) : Int32 := (if x0 = 0 then vg1 else vg2)
theorem inX2_gloves_X0 : ∀ w ∈ u_ws RX0 TX0 5, w ∈ wsX2_gloves := by decide +kernel
set_option maxRecDepth 100000 in
set_option maxHeartbeats 4000000 in
theorem c_X2_gloves {l : Launch} {D : va_G} (a0 : Nat) (aR : Nat) (aF : Nat) (aG : Nat) (cI : ClassId) (vrow : Nat → Int32) (vdrawn : Int32) (vtr : Int32) (vled : Int32) (vmov : Int32) (vw1 : Int32) (vw2 : Int32) (veo : Option Nat) (veb : Int32) (vh1 : Int64) (vt1 : Int64) (vp1 : Int32) (vk1 : Int32) (vg1 : Int32) (vh2 : Int64) (vt2 : Int64) (vp2 : Int32) (vk2 : Int32) (vg2 : Int32) (x0 : Int32) (h0 : ¬ (j_X2_isArchivist x0 = 0)) : jR l yX2_gloves wsX2_gloves rX2_gloves D [.ref a0, .int x0] (jC a0 aR aF aG cI vrow vdrawn vtr vled vmov vw1 vw2 veo veb vh1 vt1 vp1 vk1 vg1 vh2 vt2 vp2 vk2 vg2) [(cI, .int)] (.int (j_X2_gloves vg1 vg2 x0)) := by
  refine jR_of (cc := cX2_gloves) (maxL := 2) (ret := (some .int)) (by decide) rfl (Nat.le_of_ble_eq_true rfl) ?_
  intro p e s m below meth c ls S hr hlocks hP hK hN hl
  obtain ⟨hx, hb, hml, hown, hts⟩ := id S
  have hl : lv_has ls 2 [(0, .ref a0), (1, .int x0)] := hl
  refine lv_iload_n hx hb dX2_gloves_0 rfl (lv_at hl 1 rfl) ?_
  refine jr_callS (n := 1) (As := [.int x0]) (rest := []) S (c_X2_isArchivist x0) gX2_gloves_X2_isArchivist rfl (by decide +kernel) rfl ⟨⟨rfl, rfl⟩, ⟨Nat.le_of_ble_eq_true rfl, Nat.le_of_ble_eq_true rfl⟩, Nat.le_of_ble_eq_true rfl, Nat.le_of_ble_eq_true rfl⟩ hP hK hN [] [] rfl rfl (lv_nil hl) rfl (Nat.le_of_ble_eq_true rfl) dX2_gloves_1 ?_
  refine lv_if_ne (tgt := 17) hx hb dX2_gloves_4 (by decide) (fun _ => ?_) (fun c_ => absurd c_ h0)
  refine lv_aload_n hx hb dX2_gloves_17 rfl (lv_at hl 0 rfl) ?_
  refine lv_iload_n hx hb dX2_gloves_18 rfl (lv_at hl 1 rfl) ?_
  refine jr_callV (n := 1) (C := RX2) (As := [.int x0]) (rest := []) S (c_X2_archivist a0 aR aF aG cI vrow vdrawn vtr vled vmov vw1 vw2 veo veb vh1 vt1 vp1 vk1 vg1 vh2 vt2 vp2 vk2 vg2 x0) gX2_gloves_X2_archivist rfl (by decide +kernel) rfl ⟨⟨rfl, rfl⟩, ⟨Nat.le_of_ble_eq_true rfl, Nat.le_of_ble_eq_true rfl⟩, Nat.le_of_ble_eq_true rfl, Nat.le_of_ble_eq_true rfl⟩ hP hK hN [0, 1, 2, 3] [0] rfl rfl 0 2 rfl rfl rfl (lv_nil hl) rfl (Nat.le_of_ble_eq_true rfl) dX2_gloves_19 ?_
  refine jr_ite (c0 := x0 = 0) (a := aF) (b := aG) rfl (fun c_1 => ?_) (fun c_1 => ?_)
  · skip
    refine va_get (D := D) (ci := 0) (v := .int vg1) (C := RX0) (T := TX0) (N := 5) hx hb hts inX2_gloves_X0 hown hK hP 1 rfl rfl 4 (by decide) (hts (.fieldLink RX2 105 "ArchivistTricks$Archivist" "gloves" "I") (by decide +kernel)) (fun _ h9 => h9) rfl dX2_gloves_22 ?_
    exact jr_iret hx hb hr hlocks dX2_gloves_25 (by simp only [j_X2_gloves, if_neg h0, if_pos c_1])
  · skip
    refine va_get (D := D) (ci := 0) (v := .int vg2) (C := RX0) (T := TX0) (N := 5) hx hb hts inX2_gloves_X0 hown hK hP 2 rfl rfl 4 (by decide) (hts (.fieldLink RX2 105 "ArchivistTricks$Archivist" "gloves" "I") (by decide +kernel)) (fun _ h9 => h9) rfl dX2_gloves_22 ?_
    exact jr_iret hx hb hr hlocks dX2_gloves_25 (by simp only [j_X2_gloves, if_neg h0, if_neg c_1])

abbrev rX2_wouldTake : Room := { frames := 3, cells := 0, slots := 0, locals := 63 }
def j_X2_wouldTake (vtr : Int32) (vled : Int32) (vmov : Int32) (x0 : Int32) : Int32 := j_X2_takerBy vtr vled vmov x0
theorem inX2_wouldTake_X2 : ∀ w ∈ u_ws RX2 TX2 11, w ∈ wsX2_wouldTake := by decide +kernel
set_option maxRecDepth 100000 in
set_option maxHeartbeats 4000000 in
theorem c_X2_wouldTake {l : Launch} {D : va_G} (a0 : Nat) (aR : Nat) (aF : Nat) (aG : Nat) (cI : ClassId) (vrow : Nat → Int32) (vdrawn : Int32) (vtr : Int32) (vled : Int32) (vmov : Int32) (vw1 : Int32) (vw2 : Int32) (veo : Option Nat) (veb : Int32) (vh1 : Int64) (vt1 : Int64) (vp1 : Int32) (vk1 : Int32) (vg1 : Int32) (vh2 : Int64) (vt2 : Int64) (vp2 : Int32) (vk2 : Int32) (vg2 : Int32) (x0 : Int32) (h0 : ¬ (j_X2_isCard x0 = 0)) (h1 : ¬ (vled = (-1))) (h2 : ¬ (vled = x0)) : jR l yX2_wouldTake wsX2_wouldTake rX2_wouldTake D [.ref a0, .int x0] (jC a0 aR aF aG cI vrow vdrawn vtr vled vmov vw1 vw2 veo veb vh1 vt1 vp1 vk1 vg1 vh2 vt2 vp2 vk2 vg2) [(cI, .int)] (.int (j_X2_wouldTake vtr vled vmov x0)) := by
  refine jR_of (cc := cX2_wouldTake) (maxL := 2) (ret := (some .int)) (by decide) rfl (Nat.le_of_ble_eq_true rfl) ?_
  intro p e s m below meth c ls S hr hlocks hP hK hN hl
  obtain ⟨hx, hb, hml, hown, hts⟩ := id S
  have hl : lv_has ls 2 [(0, .ref a0), (1, .int x0)] := hl
  refine lv_iload_n hx hb dX2_wouldTake_0 rfl (lv_at hl 1 rfl) ?_
  refine jr_callS (n := 1) (As := [.int x0]) (rest := []) S (c_X2_isCard x0) gX2_wouldTake_X2_isCard rfl (by decide +kernel) rfl ⟨⟨rfl, rfl⟩, ⟨Nat.le_of_ble_eq_true rfl, Nat.le_of_ble_eq_true rfl⟩, Nat.le_of_ble_eq_true rfl, Nat.le_of_ble_eq_true rfl⟩ hP hK hN [] [] rfl rfl (lv_nil hl) rfl (Nat.le_of_ble_eq_true rfl) dX2_wouldTake_1 ?_
  refine lv_if_ne (tgt := 17) hx hb dX2_wouldTake_4 (by decide) (fun _ => ?_) (fun c_ => absurd c_ h0)
  refine lv_aload_n hx hb dX2_wouldTake_17 rfl (lv_at hl 0 rfl) ?_
  refine va_get (D := D) (ci := 2) (v := .int vled) (C := RX2) (T := TX2) (N := 11) hx hb hts inX2_wouldTake_X2 hown hK hP 0 rfl rfl 5 (by decide) (hts (.fieldLink RX2 30 "ArchivistTricks" "ledCard" "I") (by decide +kernel)) (fun _ h9 => h9) rfl dX2_wouldTake_18 ?_
  refine lv_iconst (v := (-1)) hx hb dX2_wouldTake_21 (by decide) ?_
  refine lv_icmp_eq (tgt := 33) hx hb dX2_wouldTake_22 (by decide) (fun c_ => absurd c_ h1) (fun _ => ?_)
  refine lv_aload_n hx hb dX2_wouldTake_25 rfl (lv_at hl 0 rfl) ?_
  refine va_get (D := D) (ci := 2) (v := .int vled) (C := RX2) (T := TX2) (N := 11) hx hb hts inX2_wouldTake_X2 hown hK hP 0 rfl rfl 5 (by decide) (hts (.fieldLink RX2 30 "ArchivistTricks" "ledCard" "I") (by decide +kernel)) (fun _ h9 => h9) rfl dX2_wouldTake_26 ?_
  refine lv_iload_n hx hb dX2_wouldTake_29 rfl (lv_at hl 1 rfl) ?_
  refine lv_icmp_ne (tgt := 43) hx hb dX2_wouldTake_30 (by decide) (fun _ => ?_) (fun c_ => absurd c_ h2)
  refine lv_aload_n hx hb dX2_wouldTake_43 rfl (lv_at hl 0 rfl) ?_
  refine lv_iload_n hx hb dX2_wouldTake_44 rfl (lv_at hl 1 rfl) ?_
  refine jr_callV (n := 1) (C := RX2) (As := [.int x0]) (rest := []) S (c_X2_takerBy a0 aR aF aG cI vrow vdrawn vtr vled vmov vw1 vw2 veo veb vh1 vt1 vp1 vk1 vg1 vh2 vt2 vp2 vk2 vg2 x0) gX2_wouldTake_X2_takerBy rfl (by decide +kernel) rfl ⟨⟨rfl, rfl⟩, ⟨Nat.le_of_ble_eq_true rfl, Nat.le_of_ble_eq_true rfl⟩, Nat.le_of_ble_eq_true rfl, Nat.le_of_ble_eq_true rfl⟩ hP hK hN [0, 1, 2, 3] [0] rfl rfl 0 2 rfl rfl rfl (lv_nil hl) rfl (Nat.le_of_ble_eq_true rfl) dX2_wouldTake_45 ?_
  exact jr_iret hx hb hr hlocks dX2_wouldTake_48 (by simp only [j_X2_wouldTake, if_neg h0, if_neg h1, if_neg h2])

abbrev rX2_cardAt : Room := { frames := 1, cells := 0, slots := 0, locals := 22 }
def j_X2_cardAt_32 (vh1 : Int64) (vh2 : Int64) (x0 : Int32) (x1 : Int32) : Nat → Nat → Int64 → Int32 → Int32
  | 0, i, y3, y5 => (-1)
  | n + 1, i, y3, y5 => (if j_X2_has y3 (nI i) = 0 then j_X2_cardAt_32 vh1 vh2 x0 x1 n (i + 1) y3 y5 else (if y5 = x1 then nI i else j_X2_cardAt_32 vh1 vh2 x0 x1 n (i + 1) y3 (y5 + 1)))
def j_X2_cardAt (vh1 : Int64) (vh2 : Int64) (x0 : Int32) (x1 : Int32) : Int32 := (if x0 = 0 then j_X2_cardAt_32 vh1 vh2 x0 x1 42 0 vh1 0 else j_X2_cardAt_32 vh1 vh2 x0 x1 42 0 vh2 0)
theorem inX2_cardAt_X0 : ∀ w ∈ u_ws RX0 TX0 5, w ∈ wsX2_cardAt := by decide +kernel
set_option maxRecDepth 100000 in
set_option maxHeartbeats 4000000 in
theorem c_X2_cardAt {l : Launch} {D : va_G} (a0 : Nat) (aR : Nat) (aF : Nat) (aG : Nat) (cI : ClassId) (vrow : Nat → Int32) (vdrawn : Int32) (vtr : Int32) (vled : Int32) (vmov : Int32) (vw1 : Int32) (vw2 : Int32) (veo : Option Nat) (veb : Int32) (vh1 : Int64) (vt1 : Int64) (vp1 : Int32) (vk1 : Int32) (vg1 : Int32) (vh2 : Int64) (vt2 : Int64) (vp2 : Int32) (vk2 : Int32) (vg2 : Int32) (x0 : Int32) (x1 : Int32) (hne : ¬ (j_X2_cardAt vh1 vh2 x0 x1) = -1) (h0 : ¬ (j_X2_isArchivist x0 = 0)) : jR l yX2_cardAt wsX2_cardAt rX2_cardAt D [.ref a0, .int x0, .int x1] (jC a0 aR aF aG cI vrow vdrawn vtr vled vmov vw1 vw2 veo veb vh1 vt1 vp1 vk1 vg1 vh2 vt2 vp2 vk2 vg2) [(cI, .int)] (.int (j_X2_cardAt vh1 vh2 x0 x1)) := by
  refine jR_of (cc := cX2_cardAt) (maxL := 7) (ret := (some .int)) (by decide) rfl (Nat.le_of_ble_eq_true rfl) ?_
  intro p e s m below meth c ls S hr hlocks hP hK hN hl
  obtain ⟨hx, hb, hml, hown, hts⟩ := id S
  have hl : lv_has ls 7 [(0, .ref a0), (1, .int x0), (2, .int x1)] := hl
  have loop32 : ∀ (n i : Nat) (y3 : Int64) (y5 : Int32), i + n = 42 → j_X2_cardAt_32 vh1 vh2 x0 x1 n i y3 y5 = (j_X2_cardAt vh1 vh2 x0 x1) → ∀ (ls : Array Slot), lv_has ls 7 [(6, .int (nI i)), (3, .long y3), (5, .int y5), (0, .ref a0), (1, .int x0), (2, .int x1)] → W p l e rX2_cardAt s m ([.ref a0, .int x0, .int x1] : List Value).toArray below meth c s.heap [] 0 0 (MQ below (k2_QcV (.int (j_X2_cardAt vh1 vh2 x0 x1))) ([.ref a0, .int x0, .int x1] : List Value).toArray s 0 0 (fun _ => False)) (F0 m 32 ls []) := by
    intro n
    induction n with
    | zero =>
      intro i y3 y5 hin hv ls hl
      have hge : (42 : Int32) ≤ nI i := by rw [show i = 42 by omega]; decide
      have hgl : ¬ nI i < (42 : Int32) := by rw [show i = 42 by omega]; decide
      refine lv_iload hx hb dX2_cardAt_32 (lv_at hl 0 rfl) ?_
      refine lv_bipush (v := 42) hx hb dX2_cardAt_34 (by decide) ?_
      refine lv_icmp_ge (tgt := 66) hx hb dX2_cardAt_36 (by decide) (fun _ => ?_) (fun c_ => absurd hge c_)
      exact absurd (by rw [← hv]; simp only [j_X2_cardAt_32]) hne
    | succ n ih =>
      intro i y3 y5 hin hv ls hl
      have hge : ¬ (42 : Int32) ≤ nI i := nI_ge (a := i) (b := 42) (by omega) (by decide)
      have hgl : nI i < (42 : Int32) := nI_lt (a := i) (b := 42) (by omega) (by decide)
      refine lv_iload hx hb dX2_cardAt_32 (lv_at hl 0 rfl) ?_
      refine lv_bipush (v := 42) hx hb dX2_cardAt_34 (by decide) ?_
      refine lv_icmp_ge (tgt := 66) hx hb dX2_cardAt_36 (by decide) (fun c_ => absurd c_ hge) (fun _ => ?_)
      refine lv_lload_n hx hb dX2_cardAt_39 rfl (lv_at hl 1 rfl) ?_
      refine lv_iload hx hb dX2_cardAt_40 (lv_at hl 0 rfl) ?_
      refine jr_callS (n := 2) (As := [.long y3, .int (nI i)]) (rest := []) S (c_X2_has y3 (nI i)) gX2_cardAt_X2_has rfl (by decide +kernel) rfl ⟨⟨rfl, rfl⟩, ⟨Nat.le_of_ble_eq_true rfl, Nat.le_of_ble_eq_true rfl⟩, Nat.le_of_ble_eq_true rfl, Nat.le_of_ble_eq_true rfl⟩ hP hK hN [] [] rfl rfl (lv_nil hl) rfl (Nat.le_of_ble_eq_true rfl) dX2_cardAt_42 ?_
      refine lv_if_eq (tgt := 60) hx hb dX2_cardAt_45 (by decide) (fun c_32001 => ?_) (fun c_32001 => ?_)
      · skip
        refine lv_iinc (v := nI (i + 1)) (lv' := [(6, .int (nI (i + 1))), (3, .long y3), (5, .int y5), (0, .ref a0), (1, .int x0), (2, .int x1)]) hx hb dX2_cardAt_60 hl (k := 0) rfl (nI_1 i) (by decide) rfl (fun ls hl => ?_)
        refine lv_goto (tgt := 32) hx hb dX2_cardAt_63 (by decide) ?_
        exact ih (i + 1) y3 y5 (by omega) (by rw [← hv]; simp only [j_X2_cardAt_32, if_neg h0, if_neg hge, if_pos hgl, if_pos c_32001]) ls (lv_sub hl [0, 1, 2, 3, 4, 5] rfl)
      · skip
        refine lv_iload hx hb dX2_cardAt_48 (lv_at hl 2 rfl) ?_
        refine lv_iload_n hx hb dX2_cardAt_50 rfl (lv_at hl 5 rfl) ?_
        refine lv_icmp_ne (tgt := 57) hx hb dX2_cardAt_51 (by decide) (fun c_32002 => ?_) (fun c_32002 => ?_)
        · skip
          refine lv_iinc (v := y5 + 1) (lv' := [(5, .int (y5 + 1)), (6, .int (nI i)), (3, .long y3), (0, .ref a0), (1, .int x0), (2, .int x1)]) hx hb dX2_cardAt_57 hl (k := 2) rfl rfl (by decide) rfl (fun ls hl => ?_)
          refine lv_iinc (v := nI (i + 1)) (lv' := [(6, .int (nI (i + 1))), (5, .int (y5 + 1)), (3, .long y3), (0, .ref a0), (1, .int x0), (2, .int x1)]) hx hb dX2_cardAt_60 hl (k := 1) rfl (nI_1 i) (by decide) rfl (fun ls hl => ?_)
          refine lv_goto (tgt := 32) hx hb dX2_cardAt_63 (by decide) ?_
          exact ih (i + 1) y3 (y5 + 1) (by omega) (by rw [← hv]; simp only [j_X2_cardAt_32, if_neg h0, if_neg hge, if_pos hgl, if_neg c_32001, if_neg c_32002]) ls (lv_sub hl [0, 2, 1, 3, 4, 5] rfl)
        · skip
          refine lv_iload hx hb dX2_cardAt_54 (lv_at hl 0 rfl) ?_
          exact jr_iret hx hb hr hlocks dX2_cardAt_56 (by rw [← hv]; simp only [j_X2_cardAt_32, if_neg h0, if_neg hge, if_pos hgl, if_neg c_32001, if_pos c_32002])
  refine lv_iload_n hx hb dX2_cardAt_0 rfl (lv_at hl 1 rfl) ?_
  refine jr_callS (n := 1) (As := [.int x0]) (rest := []) S (c_X2_isArchivist x0) gX2_cardAt_X2_isArchivist rfl (by decide +kernel) rfl ⟨⟨rfl, rfl⟩, ⟨Nat.le_of_ble_eq_true rfl, Nat.le_of_ble_eq_true rfl⟩, Nat.le_of_ble_eq_true rfl, Nat.le_of_ble_eq_true rfl⟩ hP hK hN [] [] rfl rfl (lv_nil hl) rfl (Nat.le_of_ble_eq_true rfl) dX2_cardAt_1 ?_
  refine lv_if_ne (tgt := 17) hx hb dX2_cardAt_4 (by decide) (fun _ => ?_) (fun c_ => absurd c_ h0)
  refine lv_aload_n hx hb dX2_cardAt_17 rfl (lv_at hl 0 rfl) ?_
  refine lv_iload_n hx hb dX2_cardAt_18 rfl (lv_at hl 1 rfl) ?_
  refine jr_callV (n := 1) (C := RX2) (As := [.int x0]) (rest := []) S (c_X2_archivist a0 aR aF aG cI vrow vdrawn vtr vled vmov vw1 vw2 veo veb vh1 vt1 vp1 vk1 vg1 vh2 vt2 vp2 vk2 vg2 x0) gX2_cardAt_X2_archivist rfl (by decide +kernel) rfl ⟨⟨rfl, rfl⟩, ⟨Nat.le_of_ble_eq_true rfl, Nat.le_of_ble_eq_true rfl⟩, Nat.le_of_ble_eq_true rfl, Nat.le_of_ble_eq_true rfl⟩ hP hK hN [0, 1, 2, 3] [0] rfl rfl 0 2 rfl rfl rfl (lv_nil hl) rfl (Nat.le_of_ble_eq_true rfl) dX2_cardAt_19 ?_
  refine jr_ite (c0 := x0 = 0) (a := aF) (b := aG) rfl (fun c_1 => ?_) (fun c_1 => ?_)
  · skip
    refine va_get (D := D) (ci := 0) (v := .long vh1) (C := RX0) (T := TX0) (N := 5) hx hb hts inX2_cardAt_X0 hown hK hP 1 rfl rfl 0 (by decide) (hts (.fieldLink RX2 91 "ArchivistTricks$Archivist" "hand" "J") (by decide +kernel)) (fun _ h9 => h9) rfl dX2_cardAt_22 ?_
    refine lv_lstore_n (lv' := [(3, .long vh1), (0, .ref a0), (1, .int x0), (2, .int x1)]) hx hb dX2_cardAt_25 rfl hl (by decide) rfl (fun ls hl => ?_)
    refine lv_iconst (v := 0) hx hb dX2_cardAt_26 (by decide) ?_
    refine lv_istore (lv' := [(5, .int 0), (3, .long vh1), (0, .ref a0), (1, .int x0), (2, .int x1)]) hx hb dX2_cardAt_27 hl (by decide) rfl (fun ls hl => ?_)
    refine lv_iconst (v := 0) hx hb dX2_cardAt_29 (by decide) ?_
    refine lv_istore (lv' := [(6, .int 0), (5, .int 0), (3, .long vh1), (0, .ref a0), (1, .int x0), (2, .int x1)]) hx hb dX2_cardAt_30 hl (by decide) rfl (fun ls hl => ?_)
    exact loop32 42 0 vh1 0 rfl (by simp only [j_X2_cardAt, if_neg h0, if_pos c_1]) ls (lv_sub (l' := [(6, .int (nI 0)), (3, .long vh1), (5, .int 0), (0, .ref a0), (1, .int x0), (2, .int x1)]) hl [0, 2, 1, 3, 4, 5] rfl)
  · skip
    refine va_get (D := D) (ci := 0) (v := .long vh2) (C := RX0) (T := TX0) (N := 5) hx hb hts inX2_cardAt_X0 hown hK hP 2 rfl rfl 0 (by decide) (hts (.fieldLink RX2 91 "ArchivistTricks$Archivist" "hand" "J") (by decide +kernel)) (fun _ h9 => h9) rfl dX2_cardAt_22 ?_
    refine lv_lstore_n (lv' := [(3, .long vh2), (0, .ref a0), (1, .int x0), (2, .int x1)]) hx hb dX2_cardAt_25 rfl hl (by decide) rfl (fun ls hl => ?_)
    refine lv_iconst (v := 0) hx hb dX2_cardAt_26 (by decide) ?_
    refine lv_istore (lv' := [(5, .int 0), (3, .long vh2), (0, .ref a0), (1, .int x0), (2, .int x1)]) hx hb dX2_cardAt_27 hl (by decide) rfl (fun ls hl => ?_)
    refine lv_iconst (v := 0) hx hb dX2_cardAt_29 (by decide) ?_
    refine lv_istore (lv' := [(6, .int 0), (5, .int 0), (3, .long vh2), (0, .ref a0), (1, .int x0), (2, .int x1)]) hx hb dX2_cardAt_30 hl (by decide) rfl (fun ls hl => ?_)
    exact loop32 42 0 vh2 0 rfl (by simp only [j_X2_cardAt, if_neg h0, if_neg c_1]) ls (lv_sub (l' := [(6, .int (nI 0)), (3, .long vh2), (5, .int 0), (0, .ref a0), (1, .int x0), (2, .int x1)]) hl [0, 2, 1, 3, 4, 5] rfl)

abbrev rX2_play : Room := { frames := 4, cells := 0, slots := 0, locals := 87 }
def j_X2_play (vtr : Int32) (vled : Int32) (vmov : Int32) (x0 : Int32) : Int32 := (if vled = (-1) then (-1) else j_X2_finishTrick vtr vled vmov x0)
def j_X2_play_vdrawn (vdrawn : Int32) (vtr : Int32) (vled : Int32) (vmov : Int32) (x0 : Int32) : Int32 := (if vled = (-1) then vdrawn else j_X2_finishTrick_vdrawn vdrawn vtr vled vmov x0)
def j_X2_play_vled (vled : Int32) (x0 : Int32) : Int32 := (if vled = (-1) then x0 else j_X2_finishTrick_vled)
def j_X2_play_vmov (vrow : Nat → Int32) (vdrawn : Int32) (vtr : Int32) (vled : Int32) (vmov : Int32) (vh1 : Int64) (vh2 : Int64) (x0 : Int32) : Int32 := (if vmov = 0 then (if vled = (-1) then 1 - vmov else j_X2_finishTrick_vmov vrow vdrawn vtr vled vmov (vh1 &&& ((j_X2_bit x0) ^^^ (-1))) vh2 x0) else (if vled = (-1) then 1 - vmov else j_X2_finishTrick_vmov vrow vdrawn vtr vled vmov vh1 (vh2 &&& ((j_X2_bit x0) ^^^ (-1))) x0))
def j_X2_play_vw1 (vrow : Nat → Int32) (vdrawn : Int32) (vtr : Int32) (vled : Int32) (vmov : Int32) (vw1 : Int32) (vh1 : Int64) (vp1 : Int32) (vg1 : Int32) (vh2 : Int64) (vp2 : Int32) (vg2 : Int32) (x0 : Int32) : Int32 := (if vmov = 0 then (if vled = (-1) then vw1 else j_X2_finishTrick_vw1 vrow vdrawn vtr vled vmov vw1 (vh1 &&& ((j_X2_bit x0) ^^^ (-1))) vp1 vg1 vh2 vp2 vg2 x0) else (if vled = (-1) then vw1 else j_X2_finishTrick_vw1 vrow vdrawn vtr vled vmov vw1 vh1 vp1 vg1 (vh2 &&& ((j_X2_bit x0) ^^^ (-1))) vp2 vg2 x0))
def j_X2_play_vw2 (vrow : Nat → Int32) (vdrawn : Int32) (vtr : Int32) (vled : Int32) (vmov : Int32) (vw2 : Int32) (vh1 : Int64) (vp1 : Int32) (vg1 : Int32) (vh2 : Int64) (vp2 : Int32) (vg2 : Int32) (x0 : Int32) : Int32 := (if vmov = 0 then (if vled = (-1) then vw2 else j_X2_finishTrick_vw2 vrow vdrawn vtr vled vmov vw2 (vh1 &&& ((j_X2_bit x0) ^^^ (-1))) vp1 vg1 vh2 vp2 vg2 x0) else (if vled = (-1) then vw2 else j_X2_finishTrick_vw2 vrow vdrawn vtr vled vmov vw2 vh1 vp1 vg1 (vh2 &&& ((j_X2_bit x0) ^^^ (-1))) vp2 vg2 x0))
def j_X2_play_vh1 (vrow : Nat → Int32) (vdrawn : Int32) (vtr : Int32) (vled : Int32) (vmov : Int32) (vh1 : Int64) (x0 : Int32) : Int64 := (if vmov = 0 then (if vled = (-1) then vh1 &&& ((j_X2_bit x0) ^^^ (-1)) else j_X2_finishTrick_vh1 vrow vdrawn vtr vled vmov (vh1 &&& ((j_X2_bit x0) ^^^ (-1))) x0) else (if vled = (-1) then vh1 else j_X2_finishTrick_vh1 vrow vdrawn vtr vled vmov vh1 x0))
def j_X2_play_vt1 (vtr : Int32) (vled : Int32) (vmov : Int32) (vt1 : Int64) (x0 : Int32) : Int64 := (if vled = (-1) then vt1 else j_X2_finishTrick_vt1 vtr vled vmov vt1 x0)
def j_X2_play_vp1 (vtr : Int32) (vled : Int32) (vmov : Int32) (vp1 : Int32) (vg1 : Int32) (x0 : Int32) : Int32 := (if vled = (-1) then vp1 else j_X2_finishTrick_vp1 vtr vled vmov vp1 vg1 x0)
def j_X2_play_vk1 (vtr : Int32) (vled : Int32) (vmov : Int32) (vk1 : Int32) (x0 : Int32) : Int32 := (if vled = (-1) then vk1 else j_X2_finishTrick_vk1 vtr vled vmov vk1 x0)
def j_X2_play_vg1 (vled : Int32) (vg1 : Int32) : Int32 := (if vled = (-1) then vg1 else j_X2_finishTrick_vg1 vg1)
def j_X2_play_vh2 (vrow : Nat → Int32) (vdrawn : Int32) (vtr : Int32) (vled : Int32) (vmov : Int32) (vh2 : Int64) (x0 : Int32) : Int64 := (if vmov = 0 then (if vled = (-1) then vh2 else j_X2_finishTrick_vh2 vrow vdrawn vtr vled vmov vh2 x0) else (if vled = (-1) then vh2 &&& ((j_X2_bit x0) ^^^ (-1)) else j_X2_finishTrick_vh2 vrow vdrawn vtr vled vmov (vh2 &&& ((j_X2_bit x0) ^^^ (-1))) x0))
def j_X2_play_vt2 (vtr : Int32) (vled : Int32) (vmov : Int32) (vt2 : Int64) (x0 : Int32) : Int64 := (if vled = (-1) then vt2 else j_X2_finishTrick_vt2 vtr vled vmov vt2 x0)
def j_X2_play_vp2 (vtr : Int32) (vled : Int32) (vmov : Int32) (vp2 : Int32) (vg2 : Int32) (x0 : Int32) : Int32 := (if vled = (-1) then vp2 else j_X2_finishTrick_vp2 vtr vled vmov vp2 vg2 x0)
def j_X2_play_vk2 (vtr : Int32) (vled : Int32) (vmov : Int32) (vk2 : Int32) (x0 : Int32) : Int32 := (if vled = (-1) then vk2 else j_X2_finishTrick_vk2 vtr vled vmov vk2 x0)
def j_X2_play_vg2 (vled : Int32) (vg2 : Int32) : Int32 := (if vled = (-1) then vg2 else j_X2_finishTrick_vg2 vg2)
theorem inX2_play_X0 : ∀ w ∈ u_ws RX0 TX0 5, w ∈ wsX2_play := by decide +kernel
theorem inX2_play_X2 : ∀ w ∈ u_ws RX2 TX2 11, w ∈ wsX2_play := by decide +kernel
set_option maxRecDepth 100000 in
set_option maxHeartbeats 8000000 in
theorem c_X2_play {l : Launch} {D : va_G} (a0 : Nat) (aR : Nat) (aF : Nat) (aG : Nat) (cI : ClassId) (vrow : Nat → Int32) (vdrawn : Int32) (vtr : Int32) (vled : Int32) (vmov : Int32) (vw1 : Int32) (vw2 : Int32) (veo : Option Nat) (veb : Int32) (vh1 : Int64) (vt1 : Int64) (vp1 : Int32) (vk1 : Int32) (vg1 : Int32) (vh2 : Int64) (vt2 : Int64) (vp2 : Int32) (vk2 : Int32) (vg2 : Int32) (x0 : Int32) (h0 : ¬ (j_X2_isCard x0 = 0)) (h1 : j_X2_reasonAgainst vdrawn vtr vled vmov vh1 vh2 x0 = 0) : jWi l yX2_play wsX2_play rX2_play D [.ref a0, .int x0] (jC a0 aR aF aG cI vrow vdrawn vtr vled vmov vw1 vw2 veo veb vh1 vt1 vp1 vk1 vg1 vh2 vt2 vp2 vk2 vg2) [(cI, .int)] (j_X2_play vtr vled vmov x0) (jC a0 aR aF aG cI vrow (j_X2_play_vdrawn vdrawn vtr vled vmov x0) vtr (j_X2_play_vled vled x0) (j_X2_play_vmov vrow vdrawn vtr vled vmov vh1 vh2 x0) (j_X2_play_vw1 vrow vdrawn vtr vled vmov vw1 vh1 vp1 vg1 vh2 vp2 vg2 x0) (j_X2_play_vw2 vrow vdrawn vtr vled vmov vw2 vh1 vp1 vg1 vh2 vp2 vg2 x0) veo veb (j_X2_play_vh1 vrow vdrawn vtr vled vmov vh1 x0) (j_X2_play_vt1 vtr vled vmov vt1 x0) (j_X2_play_vp1 vtr vled vmov vp1 vg1 x0) (j_X2_play_vk1 vtr vled vmov vk1 x0) (j_X2_play_vg1 vled vg1) (j_X2_play_vh2 vrow vdrawn vtr vled vmov vh2 x0) (j_X2_play_vt2 vtr vled vmov vt2 x0) (j_X2_play_vp2 vtr vled vmov vp2 vg2 x0) (j_X2_play_vk2 vtr vled vmov vk2 x0) (j_X2_play_vg2 vled vg2)) := by
  refine jW_of (QQ := fun A => (jQi D (j_X2_play vtr vled vmov x0) (jC a0 aR aF aG cI vrow (j_X2_play_vdrawn vdrawn vtr vled vmov x0) vtr (j_X2_play_vled vled x0) (j_X2_play_vmov vrow vdrawn vtr vled vmov vh1 vh2 x0) (j_X2_play_vw1 vrow vdrawn vtr vled vmov vw1 vh1 vp1 vg1 vh2 vp2 vg2 x0) (j_X2_play_vw2 vrow vdrawn vtr vled vmov vw2 vh1 vp1 vg1 vh2 vp2 vg2 x0) veo veb (j_X2_play_vh1 vrow vdrawn vtr vled vmov vh1 x0) (j_X2_play_vt1 vtr vled vmov vt1 x0) (j_X2_play_vp1 vtr vled vmov vp1 vg1 x0) (j_X2_play_vk1 vtr vled vmov vk1 x0) (j_X2_play_vg1 vled vg1) (j_X2_play_vh2 vrow vdrawn vtr vled vmov vh2 x0) (j_X2_play_vt2 vtr vled vmov vt2 x0) (j_X2_play_vp2 vtr vled vmov vp2 vg2 x0) (j_X2_play_vk2 vtr vled vmov vk2 x0) (j_X2_play_vg2 vled vg2)) [(cI, .int)] A)) (cc := cX2_play) (maxL := 3) (ret := (some .int)) (by decide) rfl (Nat.le_of_ble_eq_true rfl) ?_
  intro p e s m below meth c ls A S hr hlocks hini hP hK hN hD hS hA hl
  obtain ⟨hx, hb, hml, hown, hts⟩ := id S
  have hl : lv_has ls 3 [(0, .ref a0), (1, .int x0)] := hl
  refine lv_iload_n hx hb dX2_play_0 rfl (lv_at hl 1 rfl) ?_
  refine jr_callS (n := 1) (As := [.int x0]) (rest := []) S (c_X2_isCard x0) gX2_play_X2_isCard rfl (by decide +kernel) rfl ⟨⟨rfl, rfl⟩, ⟨Nat.le_of_ble_eq_true rfl, Nat.le_of_ble_eq_true rfl⟩, Nat.le_of_ble_eq_true rfl, Nat.le_of_ble_eq_true rfl⟩ hP hK hN [] [] rfl rfl (lv_nil hl) rfl (Nat.le_of_ble_eq_true rfl) dX2_play_1 ?_
  refine lv_if_ne (tgt := 17) hx hb dX2_play_4 (by decide) (fun _ => ?_) (fun c_ => absurd c_ h0)
  refine lv_aload_n hx hb dX2_play_17 rfl (lv_at hl 0 rfl) ?_
  refine lv_iload_n hx hb dX2_play_18 rfl (lv_at hl 1 rfl) ?_
  refine jr_callV (n := 1) (C := RX2) (As := [.int x0]) (rest := []) S (c_X2_reasonAgainst a0 aR aF aG cI vrow vdrawn vtr vled vmov vw1 vw2 veo veb vh1 vt1 vp1 vk1 vg1 vh2 vt2 vp2 vk2 vg2 x0) gX2_play_X2_reasonAgainst rfl (by decide +kernel) rfl ⟨⟨rfl, rfl⟩, ⟨Nat.le_of_ble_eq_true rfl, Nat.le_of_ble_eq_true rfl⟩, Nat.le_of_ble_eq_true rfl, Nat.le_of_ble_eq_true rfl⟩ hP hK hN [0, 1, 2, 3] [0] rfl rfl 0 2 rfl rfl rfl (lv_nil hl) rfl (Nat.le_of_ble_eq_true rfl) dX2_play_19 ?_
  refine lv_if_eq (tgt := 35) hx hb dX2_play_22 (by decide) (fun _ => ?_) (fun c_ => absurd h1 c_)
  refine lv_aload_n hx hb dX2_play_35 rfl (lv_at hl 0 rfl) ?_
  refine lv_aload_n hx hb dX2_play_36 rfl (lv_at hl 0 rfl) ?_
  refine va_get (D := D) (ci := 2) (v := .int vmov) (C := RX2) (T := TX2) (N := 11) hx hb hts inX2_play_X2 hown hK hP 0 rfl rfl 6 (by decide) (hts (.fieldLink RX2 33 "ArchivistTricks" "mover" "I") (by decide +kernel)) (fun _ h9 => h9) rfl dX2_play_37 ?_
  refine jr_callV (n := 1) (C := RX2) (As := [.int vmov]) (rest := []) S (c_X2_archivist a0 aR aF aG cI vrow vdrawn vtr vled vmov vw1 vw2 veo veb vh1 vt1 vp1 vk1 vg1 vh2 vt2 vp2 vk2 vg2 vmov) gX2_play_X2_archivist rfl (by decide +kernel) rfl ⟨⟨rfl, rfl⟩, ⟨Nat.le_of_ble_eq_true rfl, Nat.le_of_ble_eq_true rfl⟩, Nat.le_of_ble_eq_true rfl, Nat.le_of_ble_eq_true rfl⟩ hP hK hN [0, 1, 2, 3] [0] rfl rfl 0 2 rfl rfl rfl (lv_nil hl) rfl (Nat.le_of_ble_eq_true rfl) dX2_play_40 ?_
  refine jr_ite (c0 := vmov = 0) (a := aF) (b := aG) rfl (fun c_1 => ?_) (fun c_1 => ?_)
  · skip
    refine lv_astore_n (lv' := [(2, .ref aF), (0, .ref a0), (1, .int x0)]) hx hb dX2_play_43 rfl hl (by decide) rfl (fun ls hl => ?_)
    refine lv_aload_n hx hb dX2_play_44 rfl (lv_at hl 0 rfl) ?_
    refine lv_dup hx hb dX2_play_45 rfl ?_
    refine va_get (D := D) (ci := 0) (v := .long vh1) (C := RX0) (T := TX0) (N := 5) hx hb hts inX2_play_X0 hown hK hP 1 rfl rfl 0 (by decide) (hts (.fieldLink RX2 91 "ArchivistTricks$Archivist" "hand" "J") (by decide +kernel)) (fun _ h9 => h9) rfl dX2_play_46 ?_
    refine lv_iload_n hx hb dX2_play_49 rfl (lv_at hl 2 rfl) ?_
    refine jr_callS (n := 1) (As := [.int x0]) (rest := [.long vh1, .ref aF]) S (c_X2_bit x0) gX2_play_X2_bit rfl (by decide +kernel) rfl ⟨⟨rfl, rfl⟩, ⟨Nat.le_of_ble_eq_true rfl, Nat.le_of_ble_eq_true rfl⟩, Nat.le_of_ble_eq_true rfl, Nat.le_of_ble_eq_true rfl⟩ hP hK hN [] [] rfl rfl (lv_nil hl) rfl (Nat.le_of_ble_eq_true rfl) dX2_play_50 ?_
    refine lv_ldc2 (v := (-1)) hx hb hown (hts (.constantLong RX2 98 (-1)) (by decide +kernel)) dX2_play_53 ?_
    refine lv_lxor hx hb dX2_play_56 ?_
    refine lv_land hx hb dX2_play_57 ?_
    refine va_put (D := D) (ci := 0) (v := .long (vh1 &&& ((j_X2_bit x0) ^^^ (-1)))) (ty := .long) (C := RX0) (T := TX0) (N := 5) hx hb hts inX2_play_X0 tyX0 tyX0_ok nmX0 hown hK hP hD hS 1 rfl rfl 0 (by decide) (hts (.fieldLink RX2 91 "ArchivistTricks$Archivist" "hand" "J") (by decide +kernel)) (fun _ h9 => h9) rfl (by decide +kernel) rfl rfl (Nat.le_of_ble_eq_true rfl) dX2_play_58 (fun H locs hP hD hS => ?_)
    have hP : va_P D vwCl [(a0, .inr (2, [.ref aR, .ref aF, .ref aG, .int vdrawn, .int vtr, .int vled, .int vmov, .int vw1, .int vw2, va_rf veo, .int veb])), (aF, .inr (0, [.long (vh1 &&& ((j_X2_bit x0) ^^^ (-1))), .long vt1, .int vp1, .int vk1, .int vg1])), (aG, .inr (0, [.long vh2, .long vt2, .int vp2, .int vk2, .int vg2])), (aR, .inl (cI, 42, .inl vrow))] H := hP
    have hD : va_D A [(a0, .inr (2, [.ref aR, .ref aF, .ref aG, .int vdrawn, .int vtr, .int vled, .int vmov, .int vw1, .int vw2, va_rf veo, .int veb])), (aF, .inr (0, [.long (vh1 &&& ((j_X2_bit x0) ^^^ (-1))), .long vt1, .int vp1, .int vk1, .int vg1])), (aG, .inr (0, [.long vh2, .long vt2, .int vp2, .int vk2, .int vg2])), (aR, .inl (cI, 42, .inl vrow))] := hD
    refine lv_aload_n hx hb dX2_play_61 rfl (lv_at hl 1 rfl) ?_
    refine va_get (D := D) (ci := 2) (v := .int vled) (C := RX2) (T := TX2) (N := 11) hx hb hts inX2_play_X2 hown hK hP 0 rfl rfl 5 (by decide) (hts (.fieldLink RX2 30 "ArchivistTricks" "ledCard" "I") (by decide +kernel)) (fun _ h9 => h9) rfl dX2_play_62 ?_
    refine lv_iconst (v := (-1)) hx hb dX2_play_65 (by decide) ?_
    refine lv_icmp_eq (tgt := 75) hx hb dX2_play_66 (by decide) (fun c_2 => ?_) (fun c_2 => ?_)
    · skip
      refine lv_aload_n hx hb dX2_play_75 rfl (lv_at hl 1 rfl) ?_
      refine lv_iload_n hx hb dX2_play_76 rfl (lv_at hl 2 rfl) ?_
      refine va_put (D := D) (ci := 2) (v := .int x0) (ty := .int) (C := RX2) (T := TX2) (N := 11) hx hb hts inX2_play_X2 tyX2 tyX2_ok nmX2 hown hK hP hD hS 0 rfl rfl 5 (by decide) (hts (.fieldLink RX2 30 "ArchivistTricks" "ledCard" "I") (by decide +kernel)) (fun _ h9 => h9) rfl (by decide +kernel) rfl rfl (Nat.le_of_ble_eq_true rfl) dX2_play_77 (fun H locs hP hD hS => ?_)
      have hP : va_P D vwCl [(a0, .inr (2, [.ref aR, .ref aF, .ref aG, .int vdrawn, .int vtr, .int x0, .int vmov, .int vw1, .int vw2, va_rf veo, .int veb])), (aF, .inr (0, [.long (vh1 &&& ((j_X2_bit x0) ^^^ (-1))), .long vt1, .int vp1, .int vk1, .int vg1])), (aG, .inr (0, [.long vh2, .long vt2, .int vp2, .int vk2, .int vg2])), (aR, .inl (cI, 42, .inl vrow))] H := hP
      have hD : va_D A [(a0, .inr (2, [.ref aR, .ref aF, .ref aG, .int vdrawn, .int vtr, .int x0, .int vmov, .int vw1, .int vw2, va_rf veo, .int veb])), (aF, .inr (0, [.long (vh1 &&& ((j_X2_bit x0) ^^^ (-1))), .long vt1, .int vp1, .int vk1, .int vg1])), (aG, .inr (0, [.long vh2, .long vt2, .int vp2, .int vk2, .int vg2])), (aR, .inl (cI, 42, .inl vrow))] := hD
      refine lv_aload_n hx hb dX2_play_80 rfl (lv_at hl 1 rfl) ?_
      refine lv_iconst (v := 1) hx hb dX2_play_81 (by decide) ?_
      refine lv_aload_n hx hb dX2_play_82 rfl (lv_at hl 1 rfl) ?_
      refine va_get (D := D) (ci := 2) (v := .int vmov) (C := RX2) (T := TX2) (N := 11) hx hb hts inX2_play_X2 hown hK hP 0 rfl rfl 6 (by decide) (hts (.fieldLink RX2 33 "ArchivistTricks" "mover" "I") (by decide +kernel)) (fun _ h9 => h9) rfl dX2_play_83 ?_
      refine lv_isub hx hb dX2_play_86 ?_
      refine va_put (D := D) (ci := 2) (v := .int (1 - vmov)) (ty := .int) (C := RX2) (T := TX2) (N := 11) hx hb hts inX2_play_X2 tyX2 tyX2_ok nmX2 hown hK hP hD hS 0 rfl rfl 6 (by decide) (hts (.fieldLink RX2 33 "ArchivistTricks" "mover" "I") (by decide +kernel)) (fun _ h9 => h9) rfl (by decide +kernel) rfl rfl (Nat.le_of_ble_eq_true rfl) dX2_play_87 (fun H locs hP hD hS => ?_)
      have hP : va_P D vwCl [(a0, .inr (2, [.ref aR, .ref aF, .ref aG, .int vdrawn, .int vtr, .int x0, .int (1 - vmov), .int vw1, .int vw2, va_rf veo, .int veb])), (aF, .inr (0, [.long (vh1 &&& ((j_X2_bit x0) ^^^ (-1))), .long vt1, .int vp1, .int vk1, .int vg1])), (aG, .inr (0, [.long vh2, .long vt2, .int vp2, .int vk2, .int vg2])), (aR, .inl (cI, 42, .inl vrow))] H := hP
      have hD : va_D A [(a0, .inr (2, [.ref aR, .ref aF, .ref aG, .int vdrawn, .int vtr, .int x0, .int (1 - vmov), .int vw1, .int vw2, va_rf veo, .int veb])), (aF, .inr (0, [.long (vh1 &&& ((j_X2_bit x0) ^^^ (-1))), .long vt1, .int vp1, .int vk1, .int vg1])), (aG, .inr (0, [.long vh2, .long vt2, .int vp2, .int vk2, .int vg2])), (aR, .inl (cI, 42, .inl vrow))] := hD
      refine lv_iconst (v := (-1)) hx hb dX2_play_90 (by decide) ?_
      exact jw_iret hx hb hr hlocks hK hP hD hS dX2_play_91 (by  simp only [j_X2_play, if_neg h0, if_pos h1, if_pos c_1, if_pos c_2]) (by  simp only [j_X2_play_vdrawn, j_X2_play_vled, j_X2_play_vmov, j_X2_play_vw1, j_X2_play_vw2, j_X2_play_vh1, j_X2_play_vt1, j_X2_play_vp1, j_X2_play_vk1, j_X2_play_vg1, j_X2_play_vh2, j_X2_play_vt2, j_X2_play_vp2, j_X2_play_vk2, j_X2_play_vg2, if_neg h0, if_pos h1, if_pos c_1, if_pos c_2])
    · skip
      refine lv_aload_n hx hb dX2_play_69 rfl (lv_at hl 1 rfl) ?_
      refine lv_iload_n hx hb dX2_play_70 rfl (lv_at hl 2 rfl) ?_
      refine jw_callVi (n := 1) (C := RX2) (As := [.int x0]) (rest := []) (wr := []) (wn := [(a0, .inr (2, [.ref aR, .ref aF, .ref aG, .int (j_X2_finishTrick_vdrawn vdrawn vtr vled vmov x0), .int vtr, .int j_X2_finishTrick_vled, .int (j_X2_finishTrick_vmov vrow vdrawn vtr vled vmov (vh1 &&& ((j_X2_bit x0) ^^^ (-1))) vh2 x0), .int (j_X2_finishTrick_vw1 vrow vdrawn vtr vled vmov vw1 (vh1 &&& ((j_X2_bit x0) ^^^ (-1))) vp1 vg1 vh2 vp2 vg2 x0), .int (j_X2_finishTrick_vw2 vrow vdrawn vtr vled vmov vw2 (vh1 &&& ((j_X2_bit x0) ^^^ (-1))) vp1 vg1 vh2 vp2 vg2 x0), va_rf veo, .int veb])), (aF, .inr (0, [.long (j_X2_finishTrick_vh1 vrow vdrawn vtr vled vmov (vh1 &&& ((j_X2_bit x0) ^^^ (-1))) x0), .long (j_X2_finishTrick_vt1 vtr vled vmov vt1 x0), .int (j_X2_finishTrick_vp1 vtr vled vmov vp1 vg1 x0), .int (j_X2_finishTrick_vk1 vtr vled vmov vk1 x0), .int (j_X2_finishTrick_vg1 vg1)])), (aG, .inr (0, [.long (j_X2_finishTrick_vh2 vrow vdrawn vtr vled vmov vh2 x0), .long (j_X2_finishTrick_vt2 vtr vled vmov vt2 x0), .int (j_X2_finishTrick_vp2 vtr vled vmov vp2 vg2 x0), .int (j_X2_finishTrick_vk2 vtr vled vmov vk2 x0), .int (j_X2_finishTrick_vg2 vg2)])), (aR, .inl (cI, 42, .inl vrow))]) S (c_X2_finishTrick a0 aR aF aG cI vrow vdrawn vtr vled vmov vw1 vw2 veo veb (vh1 &&& ((j_X2_bit x0) ^^^ (-1))) vt1 vp1 vk1 vg1 vh2 vt2 vp2 vk2 vg2 x0) gX2_play_X2_finishTrick rfl (by decide +kernel) rfl ⟨⟨rfl, rfl⟩, ⟨Nat.le_of_ble_eq_true rfl, Nat.le_of_ble_eq_true rfl⟩, Nat.le_of_ble_eq_true rfl, Nat.le_of_ble_eq_true rfl⟩ hP hK hN hD hS hA [0, 1, 2, 3] [] [0, 1, 2, 3] [0] rfl rfl ⟨rfl, rfl, rfl⟩ (by decide) rfl rfl 0 2 rfl rfl rfl (lv_nil hl) rfl (Nat.le_of_ble_eq_true rfl) dX2_play_71 (fun H locs hP hD hS => ?_)
      exact jw_iret hx hb hr hlocks hK hP hD hS dX2_play_74 (by  simp only [j_X2_play, if_neg h0, if_pos h1, if_pos c_1, if_neg c_2]) (by  simp only [j_X2_play_vdrawn, j_X2_play_vled, j_X2_play_vmov, j_X2_play_vw1, j_X2_play_vw2, j_X2_play_vh1, j_X2_play_vt1, j_X2_play_vp1, j_X2_play_vk1, j_X2_play_vg1, j_X2_play_vh2, j_X2_play_vt2, j_X2_play_vp2, j_X2_play_vk2, j_X2_play_vg2, if_neg h0, if_pos h1, if_pos c_1, if_neg c_2])
  · skip
    refine lv_astore_n (lv' := [(2, .ref aG), (0, .ref a0), (1, .int x0)]) hx hb dX2_play_43 rfl hl (by decide) rfl (fun ls hl => ?_)
    refine lv_aload_n hx hb dX2_play_44 rfl (lv_at hl 0 rfl) ?_
    refine lv_dup hx hb dX2_play_45 rfl ?_
    refine va_get (D := D) (ci := 0) (v := .long vh2) (C := RX0) (T := TX0) (N := 5) hx hb hts inX2_play_X0 hown hK hP 2 rfl rfl 0 (by decide) (hts (.fieldLink RX2 91 "ArchivistTricks$Archivist" "hand" "J") (by decide +kernel)) (fun _ h9 => h9) rfl dX2_play_46 ?_
    refine lv_iload_n hx hb dX2_play_49 rfl (lv_at hl 2 rfl) ?_
    refine jr_callS (n := 1) (As := [.int x0]) (rest := [.long vh2, .ref aG]) S (c_X2_bit x0) gX2_play_X2_bit rfl (by decide +kernel) rfl ⟨⟨rfl, rfl⟩, ⟨Nat.le_of_ble_eq_true rfl, Nat.le_of_ble_eq_true rfl⟩, Nat.le_of_ble_eq_true rfl, Nat.le_of_ble_eq_true rfl⟩ hP hK hN [] [] rfl rfl (lv_nil hl) rfl (Nat.le_of_ble_eq_true rfl) dX2_play_50 ?_
    refine lv_ldc2 (v := (-1)) hx hb hown (hts (.constantLong RX2 98 (-1)) (by decide +kernel)) dX2_play_53 ?_
    refine lv_lxor hx hb dX2_play_56 ?_
    refine lv_land hx hb dX2_play_57 ?_
    refine va_put (D := D) (ci := 0) (v := .long (vh2 &&& ((j_X2_bit x0) ^^^ (-1)))) (ty := .long) (C := RX0) (T := TX0) (N := 5) hx hb hts inX2_play_X0 tyX0 tyX0_ok nmX0 hown hK hP hD hS 2 rfl rfl 0 (by decide) (hts (.fieldLink RX2 91 "ArchivistTricks$Archivist" "hand" "J") (by decide +kernel)) (fun _ h9 => h9) rfl (by decide +kernel) rfl rfl (Nat.le_of_ble_eq_true rfl) dX2_play_58 (fun H locs hP hD hS => ?_)
    have hP : va_P D vwCl [(a0, .inr (2, [.ref aR, .ref aF, .ref aG, .int vdrawn, .int vtr, .int vled, .int vmov, .int vw1, .int vw2, va_rf veo, .int veb])), (aF, .inr (0, [.long vh1, .long vt1, .int vp1, .int vk1, .int vg1])), (aG, .inr (0, [.long (vh2 &&& ((j_X2_bit x0) ^^^ (-1))), .long vt2, .int vp2, .int vk2, .int vg2])), (aR, .inl (cI, 42, .inl vrow))] H := hP
    have hD : va_D A [(a0, .inr (2, [.ref aR, .ref aF, .ref aG, .int vdrawn, .int vtr, .int vled, .int vmov, .int vw1, .int vw2, va_rf veo, .int veb])), (aF, .inr (0, [.long vh1, .long vt1, .int vp1, .int vk1, .int vg1])), (aG, .inr (0, [.long (vh2 &&& ((j_X2_bit x0) ^^^ (-1))), .long vt2, .int vp2, .int vk2, .int vg2])), (aR, .inl (cI, 42, .inl vrow))] := hD
    refine lv_aload_n hx hb dX2_play_61 rfl (lv_at hl 1 rfl) ?_
    refine va_get (D := D) (ci := 2) (v := .int vled) (C := RX2) (T := TX2) (N := 11) hx hb hts inX2_play_X2 hown hK hP 0 rfl rfl 5 (by decide) (hts (.fieldLink RX2 30 "ArchivistTricks" "ledCard" "I") (by decide +kernel)) (fun _ h9 => h9) rfl dX2_play_62 ?_
    refine lv_iconst (v := (-1)) hx hb dX2_play_65 (by decide) ?_
    refine lv_icmp_eq (tgt := 75) hx hb dX2_play_66 (by decide) (fun c_3 => ?_) (fun c_3 => ?_)
    · skip
      refine lv_aload_n hx hb dX2_play_75 rfl (lv_at hl 1 rfl) ?_
      refine lv_iload_n hx hb dX2_play_76 rfl (lv_at hl 2 rfl) ?_
      refine va_put (D := D) (ci := 2) (v := .int x0) (ty := .int) (C := RX2) (T := TX2) (N := 11) hx hb hts inX2_play_X2 tyX2 tyX2_ok nmX2 hown hK hP hD hS 0 rfl rfl 5 (by decide) (hts (.fieldLink RX2 30 "ArchivistTricks" "ledCard" "I") (by decide +kernel)) (fun _ h9 => h9) rfl (by decide +kernel) rfl rfl (Nat.le_of_ble_eq_true rfl) dX2_play_77 (fun H locs hP hD hS => ?_)
      have hP : va_P D vwCl [(a0, .inr (2, [.ref aR, .ref aF, .ref aG, .int vdrawn, .int vtr, .int x0, .int vmov, .int vw1, .int vw2, va_rf veo, .int veb])), (aF, .inr (0, [.long vh1, .long vt1, .int vp1, .int vk1, .int vg1])), (aG, .inr (0, [.long (vh2 &&& ((j_X2_bit x0) ^^^ (-1))), .long vt2, .int vp2, .int vk2, .int vg2])), (aR, .inl (cI, 42, .inl vrow))] H := hP
      have hD : va_D A [(a0, .inr (2, [.ref aR, .ref aF, .ref aG, .int vdrawn, .int vtr, .int x0, .int vmov, .int vw1, .int vw2, va_rf veo, .int veb])), (aF, .inr (0, [.long vh1, .long vt1, .int vp1, .int vk1, .int vg1])), (aG, .inr (0, [.long (vh2 &&& ((j_X2_bit x0) ^^^ (-1))), .long vt2, .int vp2, .int vk2, .int vg2])), (aR, .inl (cI, 42, .inl vrow))] := hD
      refine lv_aload_n hx hb dX2_play_80 rfl (lv_at hl 1 rfl) ?_
      refine lv_iconst (v := 1) hx hb dX2_play_81 (by decide) ?_
      refine lv_aload_n hx hb dX2_play_82 rfl (lv_at hl 1 rfl) ?_
      refine va_get (D := D) (ci := 2) (v := .int vmov) (C := RX2) (T := TX2) (N := 11) hx hb hts inX2_play_X2 hown hK hP 0 rfl rfl 6 (by decide) (hts (.fieldLink RX2 33 "ArchivistTricks" "mover" "I") (by decide +kernel)) (fun _ h9 => h9) rfl dX2_play_83 ?_
      refine lv_isub hx hb dX2_play_86 ?_
      refine va_put (D := D) (ci := 2) (v := .int (1 - vmov)) (ty := .int) (C := RX2) (T := TX2) (N := 11) hx hb hts inX2_play_X2 tyX2 tyX2_ok nmX2 hown hK hP hD hS 0 rfl rfl 6 (by decide) (hts (.fieldLink RX2 33 "ArchivistTricks" "mover" "I") (by decide +kernel)) (fun _ h9 => h9) rfl (by decide +kernel) rfl rfl (Nat.le_of_ble_eq_true rfl) dX2_play_87 (fun H locs hP hD hS => ?_)
      have hP : va_P D vwCl [(a0, .inr (2, [.ref aR, .ref aF, .ref aG, .int vdrawn, .int vtr, .int x0, .int (1 - vmov), .int vw1, .int vw2, va_rf veo, .int veb])), (aF, .inr (0, [.long vh1, .long vt1, .int vp1, .int vk1, .int vg1])), (aG, .inr (0, [.long (vh2 &&& ((j_X2_bit x0) ^^^ (-1))), .long vt2, .int vp2, .int vk2, .int vg2])), (aR, .inl (cI, 42, .inl vrow))] H := hP
      have hD : va_D A [(a0, .inr (2, [.ref aR, .ref aF, .ref aG, .int vdrawn, .int vtr, .int x0, .int (1 - vmov), .int vw1, .int vw2, va_rf veo, .int veb])), (aF, .inr (0, [.long vh1, .long vt1, .int vp1, .int vk1, .int vg1])), (aG, .inr (0, [.long (vh2 &&& ((j_X2_bit x0) ^^^ (-1))), .long vt2, .int vp2, .int vk2, .int vg2])), (aR, .inl (cI, 42, .inl vrow))] := hD
      refine lv_iconst (v := (-1)) hx hb dX2_play_90 (by decide) ?_
      exact jw_iret hx hb hr hlocks hK hP hD hS dX2_play_91 (by  simp only [j_X2_play, if_neg h0, if_pos h1, if_neg c_1, if_pos c_3]) (by  simp only [j_X2_play_vdrawn, j_X2_play_vled, j_X2_play_vmov, j_X2_play_vw1, j_X2_play_vw2, j_X2_play_vh1, j_X2_play_vt1, j_X2_play_vp1, j_X2_play_vk1, j_X2_play_vg1, j_X2_play_vh2, j_X2_play_vt2, j_X2_play_vp2, j_X2_play_vk2, j_X2_play_vg2, if_neg h0, if_pos h1, if_neg c_1, if_pos c_3])
    · skip
      refine lv_aload_n hx hb dX2_play_69 rfl (lv_at hl 1 rfl) ?_
      refine lv_iload_n hx hb dX2_play_70 rfl (lv_at hl 2 rfl) ?_
      refine jw_callVi (n := 1) (C := RX2) (As := [.int x0]) (rest := []) (wr := []) (wn := [(a0, .inr (2, [.ref aR, .ref aF, .ref aG, .int (j_X2_finishTrick_vdrawn vdrawn vtr vled vmov x0), .int vtr, .int j_X2_finishTrick_vled, .int (j_X2_finishTrick_vmov vrow vdrawn vtr vled vmov vh1 (vh2 &&& ((j_X2_bit x0) ^^^ (-1))) x0), .int (j_X2_finishTrick_vw1 vrow vdrawn vtr vled vmov vw1 vh1 vp1 vg1 (vh2 &&& ((j_X2_bit x0) ^^^ (-1))) vp2 vg2 x0), .int (j_X2_finishTrick_vw2 vrow vdrawn vtr vled vmov vw2 vh1 vp1 vg1 (vh2 &&& ((j_X2_bit x0) ^^^ (-1))) vp2 vg2 x0), va_rf veo, .int veb])), (aF, .inr (0, [.long (j_X2_finishTrick_vh1 vrow vdrawn vtr vled vmov vh1 x0), .long (j_X2_finishTrick_vt1 vtr vled vmov vt1 x0), .int (j_X2_finishTrick_vp1 vtr vled vmov vp1 vg1 x0), .int (j_X2_finishTrick_vk1 vtr vled vmov vk1 x0), .int (j_X2_finishTrick_vg1 vg1)])), (aG, .inr (0, [.long (j_X2_finishTrick_vh2 vrow vdrawn vtr vled vmov (vh2 &&& ((j_X2_bit x0) ^^^ (-1))) x0), .long (j_X2_finishTrick_vt2 vtr vled vmov vt2 x0), .int (j_X2_finishTrick_vp2 vtr vled vmov vp2 vg2 x0), .int (j_X2_finishTrick_vk2 vtr vled vmov vk2 x0), .int (j_X2_finishTrick_vg2 vg2)])), (aR, .inl (cI, 42, .inl vrow))]) S (c_X2_finishTrick a0 aR aF aG cI vrow vdrawn vtr vled vmov vw1 vw2 veo veb vh1 vt1 vp1 vk1 vg1 (vh2 &&& ((j_X2_bit x0) ^^^ (-1))) vt2 vp2 vk2 vg2 x0) gX2_play_X2_finishTrick rfl (by decide +kernel) rfl ⟨⟨rfl, rfl⟩, ⟨Nat.le_of_ble_eq_true rfl, Nat.le_of_ble_eq_true rfl⟩, Nat.le_of_ble_eq_true rfl, Nat.le_of_ble_eq_true rfl⟩ hP hK hN hD hS hA [0, 1, 2, 3] [] [0, 1, 2, 3] [0] rfl rfl ⟨rfl, rfl, rfl⟩ (by decide) rfl rfl 0 2 rfl rfl rfl (lv_nil hl) rfl (Nat.le_of_ble_eq_true rfl) dX2_play_71 (fun H locs hP hD hS => ?_)
      exact jw_iret hx hb hr hlocks hK hP hD hS dX2_play_74 (by  simp only [j_X2_play, if_neg h0, if_pos h1, if_neg c_1, if_neg c_3]) (by  simp only [j_X2_play_vdrawn, j_X2_play_vled, j_X2_play_vmov, j_X2_play_vw1, j_X2_play_vw2, j_X2_play_vh1, j_X2_play_vt1, j_X2_play_vp1, j_X2_play_vk1, j_X2_play_vg1, j_X2_play_vh2, j_X2_play_vt2, j_X2_play_vp2, j_X2_play_vk2, j_X2_play_vg2, if_neg h0, if_pos h1, if_neg c_1, if_neg c_3])

abbrev rX2_putOnGloves_F : Room := { frames := 1, cells := 0, slots := 0, locals := 21 }
def j_X2_putOnGloves_F (vmov : Int32) : Int32 := vmov
def j_X2_putOnGloves_F_vg1  : Int32 := 1
theorem inX2_putOnGloves_F_X0 : ∀ w ∈ u_ws RX0 TX0 5, w ∈ wsX2_putOnGloves := by decide +kernel
theorem inX2_putOnGloves_F_X2 : ∀ w ∈ u_ws RX2 TX2 11, w ∈ wsX2_putOnGloves := by decide +kernel
set_option maxRecDepth 100000 in
set_option maxHeartbeats 8000000 in
theorem c_X2_putOnGloves_F {l : Launch} {D : va_G} (a0 : Nat) (aR : Nat) (aF : Nat) (aG : Nat) (cI : ClassId) (vrow : Nat → Int32) (vdrawn : Int32) (vtr : Int32) (vled : Int32) (vmov : Int32) (vw1 : Int32) (vw2 : Int32) (veo : Option Nat) (veb : Int32) (vh1 : Int64) (vt1 : Int64) (vp1 : Int32) (vk1 : Int32) (vg1 : Int32) (vh2 : Int64) (vt2 : Int64) (vp2 : Int32) (vk2 : Int32) (vg2 : Int32) (h0 : ¬ (vmov = (-1))) (h1 : vmov = 0) (h2 : vg1 = 0) : jWi l yX2_putOnGloves wsX2_putOnGloves rX2_putOnGloves_F D [.ref a0] (jC a0 aR aF aG cI vrow vdrawn vtr vled vmov vw1 vw2 veo veb vh1 vt1 vp1 vk1 vg1 vh2 vt2 vp2 vk2 vg2) [(cI, .int)] (j_X2_putOnGloves_F vmov) (jC a0 aR aF aG cI vrow vdrawn vtr vled vmov vw1 vw2 veo veb vh1 vt1 vp1 vk1 (j_X2_putOnGloves_F_vg1) vh2 vt2 vp2 vk2 vg2) := by
  refine jW_of (QQ := fun A => (jQi D (j_X2_putOnGloves_F vmov) (jC a0 aR aF aG cI vrow vdrawn vtr vled vmov vw1 vw2 veo veb vh1 vt1 vp1 vk1 (j_X2_putOnGloves_F_vg1) vh2 vt2 vp2 vk2 vg2) [(cI, .int)] A)) (cc := cX2_putOnGloves) (maxL := 2) (ret := (some .int)) (by decide) rfl (Nat.le_of_ble_eq_true rfl) ?_
  intro p e s m below meth c ls A S hr hlocks hini hP hK hN hD hS hA hl
  obtain ⟨hx, hb, hml, hown, hts⟩ := id S
  have hl : lv_has ls 2 [(0, .ref a0)] := hl
  refine lv_aload_n hx hb dX2_putOnGloves_0 rfl (lv_at hl 0 rfl) ?_
  refine va_get (D := D) (ci := 2) (v := .int vmov) (C := RX2) (T := TX2) (N := 11) hx hb hts inX2_putOnGloves_F_X2 hown hK hP 0 rfl rfl 6 (by decide) (hts (.fieldLink RX2 33 "ArchivistTricks" "mover" "I") (by decide +kernel)) (fun _ h9 => h9) rfl dX2_putOnGloves_1 ?_
  refine lv_iconst (v := (-1)) hx hb dX2_putOnGloves_4 (by decide) ?_
  refine lv_icmp_ne (tgt := 18) hx hb dX2_putOnGloves_5 (by decide) (fun _ => ?_) (fun c_ => absurd c_ h0)
  refine lv_aload_n hx hb dX2_putOnGloves_18 rfl (lv_at hl 0 rfl) ?_
  refine lv_aload_n hx hb dX2_putOnGloves_19 rfl (lv_at hl 0 rfl) ?_
  refine va_get (D := D) (ci := 2) (v := .int vmov) (C := RX2) (T := TX2) (N := 11) hx hb hts inX2_putOnGloves_F_X2 hown hK hP 0 rfl rfl 6 (by decide) (hts (.fieldLink RX2 33 "ArchivistTricks" "mover" "I") (by decide +kernel)) (fun _ h9 => h9) rfl dX2_putOnGloves_20 ?_
  refine jr_callV (n := 1) (C := RX2) (As := [.int vmov]) (rest := []) S (c_X2_archivist a0 aR aF aG cI vrow vdrawn vtr vled vmov vw1 vw2 veo veb vh1 vt1 vp1 vk1 vg1 vh2 vt2 vp2 vk2 vg2 vmov) gX2_putOnGloves_X2_archivist rfl (by decide +kernel) rfl ⟨⟨rfl, rfl⟩, ⟨Nat.le_of_ble_eq_true rfl, Nat.le_of_ble_eq_true rfl⟩, Nat.le_of_ble_eq_true rfl, Nat.le_of_ble_eq_true rfl⟩ hP hK hN [0, 1, 2, 3] [0] rfl rfl 0 2 rfl rfl rfl (lv_nil hl) rfl (Nat.le_of_ble_eq_true rfl) dX2_putOnGloves_23 ?_
  refine jr_iteT (c0 := vmov = 0) (a := aF) (b := aG) h1 rfl ?_
  refine lv_astore_n (lv' := [(1, .ref aF), (0, .ref a0)]) hx hb dX2_putOnGloves_26 rfl hl (by decide) rfl (fun ls hl => ?_)
  refine lv_aload_n hx hb dX2_putOnGloves_27 rfl (lv_at hl 0 rfl) ?_
  refine va_get (D := D) (ci := 0) (v := .int vg1) (C := RX0) (T := TX0) (N := 5) hx hb hts inX2_putOnGloves_F_X0 hown hK hP 1 rfl rfl 4 (by decide) (hts (.fieldLink RX2 105 "ArchivistTricks$Archivist" "gloves" "I") (by decide +kernel)) (fun _ h9 => h9) rfl dX2_putOnGloves_28 ?_
  refine lv_if_eq (tgt := 44) hx hb dX2_putOnGloves_31 (by decide) (fun _ => ?_) (fun c_ => absurd h2 c_)
  refine lv_aload_n hx hb dX2_putOnGloves_44 rfl (lv_at hl 0 rfl) ?_
  refine lv_iconst (v := 1) hx hb dX2_putOnGloves_45 (by decide) ?_
  refine va_put (D := D) (ci := 0) (v := .int 1) (ty := .int) (C := RX0) (T := TX0) (N := 5) hx hb hts inX2_putOnGloves_F_X0 tyX0 tyX0_ok nmX0 hown hK hP hD hS 1 rfl rfl 4 (by decide) (hts (.fieldLink RX2 105 "ArchivistTricks$Archivist" "gloves" "I") (by decide +kernel)) (fun _ h9 => h9) rfl (by decide +kernel) rfl rfl (Nat.le_of_ble_eq_true rfl) dX2_putOnGloves_46 (fun H locs hP hD hS => ?_)
  have hP : va_P D vwCl [(a0, .inr (2, [.ref aR, .ref aF, .ref aG, .int vdrawn, .int vtr, .int vled, .int vmov, .int vw1, .int vw2, va_rf veo, .int veb])), (aF, .inr (0, [.long vh1, .long vt1, .int vp1, .int vk1, .int 1])), (aG, .inr (0, [.long vh2, .long vt2, .int vp2, .int vk2, .int vg2])), (aR, .inl (cI, 42, .inl vrow))] H := hP
  have hD : va_D A [(a0, .inr (2, [.ref aR, .ref aF, .ref aG, .int vdrawn, .int vtr, .int vled, .int vmov, .int vw1, .int vw2, va_rf veo, .int veb])), (aF, .inr (0, [.long vh1, .long vt1, .int vp1, .int vk1, .int 1])), (aG, .inr (0, [.long vh2, .long vt2, .int vp2, .int vk2, .int vg2])), (aR, .inl (cI, 42, .inl vrow))] := hD
  refine lv_aload_n hx hb dX2_putOnGloves_49 rfl (lv_at hl 1 rfl) ?_
  refine va_get (D := D) (ci := 2) (v := .int vmov) (C := RX2) (T := TX2) (N := 11) hx hb hts inX2_putOnGloves_F_X2 hown hK hP 0 rfl rfl 6 (by decide) (hts (.fieldLink RX2 33 "ArchivistTricks" "mover" "I") (by decide +kernel)) (fun _ h9 => h9) rfl dX2_putOnGloves_50 ?_
  exact jw_iret hx hb hr hlocks hK hP hD hS dX2_putOnGloves_53 (by  simp only [j_X2_putOnGloves_F, if_neg h0, if_pos h1, if_pos h2]) (by  simp only [j_X2_putOnGloves_F_vg1, if_neg h0, if_pos h1, if_pos h2])

abbrev rX2_putOnGloves_G : Room := { frames := 1, cells := 0, slots := 0, locals := 21 }
def j_X2_putOnGloves_G (vmov : Int32) : Int32 := vmov
def j_X2_putOnGloves_G_vg2  : Int32 := 1
theorem inX2_putOnGloves_G_X0 : ∀ w ∈ u_ws RX0 TX0 5, w ∈ wsX2_putOnGloves := by decide +kernel
theorem inX2_putOnGloves_G_X2 : ∀ w ∈ u_ws RX2 TX2 11, w ∈ wsX2_putOnGloves := by decide +kernel
set_option maxRecDepth 100000 in
set_option maxHeartbeats 8000000 in
theorem c_X2_putOnGloves_G {l : Launch} {D : va_G} (a0 : Nat) (aR : Nat) (aF : Nat) (aG : Nat) (cI : ClassId) (vrow : Nat → Int32) (vdrawn : Int32) (vtr : Int32) (vled : Int32) (vmov : Int32) (vw1 : Int32) (vw2 : Int32) (veo : Option Nat) (veb : Int32) (vh1 : Int64) (vt1 : Int64) (vp1 : Int32) (vk1 : Int32) (vg1 : Int32) (vh2 : Int64) (vt2 : Int64) (vp2 : Int32) (vk2 : Int32) (vg2 : Int32) (h0 : ¬ (vmov = (-1))) (h1 : ¬ (vmov = 0)) (h2 : vg2 = 0) : jWi l yX2_putOnGloves wsX2_putOnGloves rX2_putOnGloves_G D [.ref a0] (jC a0 aR aF aG cI vrow vdrawn vtr vled vmov vw1 vw2 veo veb vh1 vt1 vp1 vk1 vg1 vh2 vt2 vp2 vk2 vg2) [(cI, .int)] (j_X2_putOnGloves_G vmov) (jC a0 aR aF aG cI vrow vdrawn vtr vled vmov vw1 vw2 veo veb vh1 vt1 vp1 vk1 vg1 vh2 vt2 vp2 vk2 (j_X2_putOnGloves_G_vg2)) := by
  refine jW_of (QQ := fun A => (jQi D (j_X2_putOnGloves_G vmov) (jC a0 aR aF aG cI vrow vdrawn vtr vled vmov vw1 vw2 veo veb vh1 vt1 vp1 vk1 vg1 vh2 vt2 vp2 vk2 (j_X2_putOnGloves_G_vg2)) [(cI, .int)] A)) (cc := cX2_putOnGloves) (maxL := 2) (ret := (some .int)) (by decide) rfl (Nat.le_of_ble_eq_true rfl) ?_
  intro p e s m below meth c ls A S hr hlocks hini hP hK hN hD hS hA hl
  obtain ⟨hx, hb, hml, hown, hts⟩ := id S
  have hl : lv_has ls 2 [(0, .ref a0)] := hl
  refine lv_aload_n hx hb dX2_putOnGloves_0 rfl (lv_at hl 0 rfl) ?_
  refine va_get (D := D) (ci := 2) (v := .int vmov) (C := RX2) (T := TX2) (N := 11) hx hb hts inX2_putOnGloves_G_X2 hown hK hP 0 rfl rfl 6 (by decide) (hts (.fieldLink RX2 33 "ArchivistTricks" "mover" "I") (by decide +kernel)) (fun _ h9 => h9) rfl dX2_putOnGloves_1 ?_
  refine lv_iconst (v := (-1)) hx hb dX2_putOnGloves_4 (by decide) ?_
  refine lv_icmp_ne (tgt := 18) hx hb dX2_putOnGloves_5 (by decide) (fun _ => ?_) (fun c_ => absurd c_ h0)
  refine lv_aload_n hx hb dX2_putOnGloves_18 rfl (lv_at hl 0 rfl) ?_
  refine lv_aload_n hx hb dX2_putOnGloves_19 rfl (lv_at hl 0 rfl) ?_
  refine va_get (D := D) (ci := 2) (v := .int vmov) (C := RX2) (T := TX2) (N := 11) hx hb hts inX2_putOnGloves_G_X2 hown hK hP 0 rfl rfl 6 (by decide) (hts (.fieldLink RX2 33 "ArchivistTricks" "mover" "I") (by decide +kernel)) (fun _ h9 => h9) rfl dX2_putOnGloves_20 ?_
  refine jr_callV (n := 1) (C := RX2) (As := [.int vmov]) (rest := []) S (c_X2_archivist a0 aR aF aG cI vrow vdrawn vtr vled vmov vw1 vw2 veo veb vh1 vt1 vp1 vk1 vg1 vh2 vt2 vp2 vk2 vg2 vmov) gX2_putOnGloves_X2_archivist rfl (by decide +kernel) rfl ⟨⟨rfl, rfl⟩, ⟨Nat.le_of_ble_eq_true rfl, Nat.le_of_ble_eq_true rfl⟩, Nat.le_of_ble_eq_true rfl, Nat.le_of_ble_eq_true rfl⟩ hP hK hN [0, 1, 2, 3] [0] rfl rfl 0 2 rfl rfl rfl (lv_nil hl) rfl (Nat.le_of_ble_eq_true rfl) dX2_putOnGloves_23 ?_
  refine jr_iteF (c0 := vmov = 0) (a := aF) (b := aG) h1 rfl ?_
  refine lv_astore_n (lv' := [(1, .ref aG), (0, .ref a0)]) hx hb dX2_putOnGloves_26 rfl hl (by decide) rfl (fun ls hl => ?_)
  refine lv_aload_n hx hb dX2_putOnGloves_27 rfl (lv_at hl 0 rfl) ?_
  refine va_get (D := D) (ci := 0) (v := .int vg2) (C := RX0) (T := TX0) (N := 5) hx hb hts inX2_putOnGloves_G_X0 hown hK hP 2 rfl rfl 4 (by decide) (hts (.fieldLink RX2 105 "ArchivistTricks$Archivist" "gloves" "I") (by decide +kernel)) (fun _ h9 => h9) rfl dX2_putOnGloves_28 ?_
  refine lv_if_eq (tgt := 44) hx hb dX2_putOnGloves_31 (by decide) (fun _ => ?_) (fun c_ => absurd h2 c_)
  refine lv_aload_n hx hb dX2_putOnGloves_44 rfl (lv_at hl 0 rfl) ?_
  refine lv_iconst (v := 1) hx hb dX2_putOnGloves_45 (by decide) ?_
  refine va_put (D := D) (ci := 0) (v := .int 1) (ty := .int) (C := RX0) (T := TX0) (N := 5) hx hb hts inX2_putOnGloves_G_X0 tyX0 tyX0_ok nmX0 hown hK hP hD hS 2 rfl rfl 4 (by decide) (hts (.fieldLink RX2 105 "ArchivistTricks$Archivist" "gloves" "I") (by decide +kernel)) (fun _ h9 => h9) rfl (by decide +kernel) rfl rfl (Nat.le_of_ble_eq_true rfl) dX2_putOnGloves_46 (fun H locs hP hD hS => ?_)
  have hP : va_P D vwCl [(a0, .inr (2, [.ref aR, .ref aF, .ref aG, .int vdrawn, .int vtr, .int vled, .int vmov, .int vw1, .int vw2, va_rf veo, .int veb])), (aF, .inr (0, [.long vh1, .long vt1, .int vp1, .int vk1, .int vg1])), (aG, .inr (0, [.long vh2, .long vt2, .int vp2, .int vk2, .int 1])), (aR, .inl (cI, 42, .inl vrow))] H := hP
  have hD : va_D A [(a0, .inr (2, [.ref aR, .ref aF, .ref aG, .int vdrawn, .int vtr, .int vled, .int vmov, .int vw1, .int vw2, va_rf veo, .int veb])), (aF, .inr (0, [.long vh1, .long vt1, .int vp1, .int vk1, .int vg1])), (aG, .inr (0, [.long vh2, .long vt2, .int vp2, .int vk2, .int 1])), (aR, .inl (cI, 42, .inl vrow))] := hD
  refine lv_aload_n hx hb dX2_putOnGloves_49 rfl (lv_at hl 1 rfl) ?_
  refine va_get (D := D) (ci := 2) (v := .int vmov) (C := RX2) (T := TX2) (N := 11) hx hb hts inX2_putOnGloves_G_X2 hown hK hP 0 rfl rfl 6 (by decide) (hts (.fieldLink RX2 33 "ArchivistTricks" "mover" "I") (by decide +kernel)) (fun _ h9 => h9) rfl dX2_putOnGloves_50 ?_
  exact jw_iret hx hb hr hlocks hK hP hD hS dX2_putOnGloves_53 (by  simp only [j_X2_putOnGloves_G, if_neg h0, if_neg h1, if_pos h2]) (by  simp only [j_X2_putOnGloves_G_vg2, if_neg h0, if_neg h1, if_pos h2])

