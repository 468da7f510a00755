/-! THE CLASS: methods that read (laid by wip/p24/rows.py) -/
abbrev rX2_archivist : Room := { frames := 0, cells := 0, slots := 0, locals := 0 }
def j_X2_archivist (aF : Nat) (aG : Nat) (x0 : Int32) : Nat := (if x0 = 0 then aF else aG)
theorem inX2_archivist_X2 : ∀ w ∈ u_ws RX2 TX2 11, w ∈ wsX2_archivist := by decide +kernel
set_option maxRecDepth 100000 in
set_option maxHeartbeats 4000000 in
theorem c_X2_archivist {l : Launch} {D : va_G} (a0 : Nat) (aR : Nat) (aF : Nat) (aG : Nat) (cI : ClassId) (vrow : Nat → Int32) (vdrawn : Int32) (vtr : Int32) (vled : Int32) (vmov : Int32) (vw1 : Int32) (vw2 : Int32) (veo : Option Nat) (veb : Int32) (vh1 : Int64) (vt1 : Int64) (vp1 : Int32) (vk1 : Int32) (vg1 : Int32) (vh2 : Int64) (vt2 : Int64) (vp2 : Int32) (vk2 : Int32) (vg2 : Int32) (x0 : Int32) : jR l yX2_archivist wsX2_archivist rX2_archivist D [.ref a0, .int x0] (jC a0 aR aF aG cI vrow vdrawn vtr vled vmov vw1 vw2 veo veb vh1 vt1 vp1 vk1 vg1 vh2 vt2 vp2 vk2 vg2) [(cI, .int)] (.ref (j_X2_archivist aF aG x0)) := by
  refine jR_of (cc := cX2_archivist) (maxL := 2) (ret := (some (.object "ArchivistTricks$Archivist"))) (by decide) rfl (Nat.le_of_ble_eq_true rfl) ?_
  intro p e s m below meth c ls S hr hlocks hP hK hN hl
  obtain ⟨hx, hb, hml, hown, hts⟩ := id S
  have hl : lv_has ls 2 [(0, .ref a0), (1, .int x0)] := hl
  refine lv_iload_n hx hb dX2_archivist_0 rfl (lv_at hl 1 rfl) ?_
  refine lv_if_ne (tgt := 11) hx hb dX2_archivist_1 (by decide) (fun c_1 => ?_) (fun c_1 => ?_)
  · skip
    refine lv_aload_n hx hb dX2_archivist_11 rfl (lv_at hl 0 rfl) ?_
    refine va_get (D := D) (ci := 2) (v := .ref aG) (C := RX2) (T := TX2) (N := 11) hx hb hts inX2_archivist_X2 hown hK hP 0 rfl rfl 2 (by decide) (hts (.fieldLink RX2 20 "ArchivistTricks" "second" "LArchivistTricks$Archivist;") (by decide +kernel)) (fun _ h9 => h9) rfl dX2_archivist_12 ?_
    exact jr_aret hx hb hr hlocks dX2_archivist_15 (by simp only [j_X2_archivist, if_neg c_1])
  · skip
    refine lv_aload_n hx hb dX2_archivist_4 rfl (lv_at hl 0 rfl) ?_
    refine va_get (D := D) (ci := 2) (v := .ref aF) (C := RX2) (T := TX2) (N := 11) hx hb hts inX2_archivist_X2 hown hK hP 0 rfl rfl 1 (by decide) (hts (.fieldLink RX2 16 "ArchivistTricks" "first" "LArchivistTricks$Archivist;") (by decide +kernel)) (fun _ h9 => h9) rfl dX2_archivist_5 ?_
    refine lv_goto (tgt := 15) hx hb dX2_archivist_8 (by decide) ?_
    exact jr_aret hx hb hr hlocks dX2_archivist_15 (by simp only [j_X2_archivist, if_pos c_1])

abbrev rX2_moversHand : Room := { frames := 1, cells := 0, slots := 0, locals := 21 }
def j_X2_moversHand (vmov : Int32) (vh1 : Int64) (vh2 : Int64) : Int64 := (if vmov = 0 then vh1 else vh2)
theorem inX2_moversHand_X0 : ∀ w ∈ u_ws RX0 TX0 5, w ∈ wsX2_moversHand := by decide +kernel
theorem inX2_moversHand_X2 : ∀ w ∈ u_ws RX2 TX2 11, w ∈ wsX2_moversHand := by decide +kernel
set_option maxRecDepth 100000 in
set_option maxHeartbeats 4000000 in
theorem c_X2_moversHand {l : Launch} {D : va_G} (a0 : Nat) (aR : Nat) (aF : Nat) (aG : Nat) (cI : ClassId) (vrow : Nat → Int32) (vdrawn : Int32) (vtr : Int32) (vled : Int32) (vmov : Int32) (vw1 : Int32) (vw2 : Int32) (veo : Option Nat) (veb : Int32) (vh1 : Int64) (vt1 : Int64) (vp1 : Int32) (vk1 : Int32) (vg1 : Int32) (vh2 : Int64) (vt2 : Int64) (vp2 : Int32) (vk2 : Int32) (vg2 : Int32) : jR l yX2_moversHand wsX2_moversHand rX2_moversHand D [.ref a0] (jC a0 aR aF aG cI vrow vdrawn vtr vled vmov vw1 vw2 veo veb vh1 vt1 vp1 vk1 vg1 vh2 vt2 vp2 vk2 vg2) [(cI, .int)] (.long (j_X2_moversHand vmov vh1 vh2)) := by
  refine jR_of (cc := cX2_moversHand) (maxL := 1) (ret := (some .long)) (by decide) rfl (Nat.le_of_ble_eq_true rfl) ?_
  intro p e s m below meth c ls S hr hlocks hP hK hN hl
  obtain ⟨hx, hb, hml, hown, hts⟩ := id S
  have hl : lv_has ls 1 [(0, .ref a0)] := hl
  refine lv_aload_n hx hb dX2_moversHand_0 rfl (lv_at hl 0 rfl) ?_
  refine lv_aload_n hx hb dX2_moversHand_1 rfl (lv_at hl 0 rfl) ?_
  refine va_get (D := D) (ci := 2) (v := .int vmov) (C := RX2) (T := TX2) (N := 11) hx hb hts inX2_moversHand_X2 hown hK hP 0 rfl rfl 6 (by decide) (hts (.fieldLink RX2 33 "ArchivistTricks" "mover" "I") (by decide +kernel)) (fun _ h9 => h9) rfl dX2_moversHand_2 ?_
  refine jr_callV (n := 1) (C := RX2) (As := [.int vmov]) (rest := []) S (c_X2_archivist a0 aR aF aG cI vrow vdrawn vtr vled vmov vw1 vw2 veo veb vh1 vt1 vp1 vk1 vg1 vh2 vt2 vp2 vk2 vg2 vmov) gX2_moversHand_X2_archivist rfl (by decide +kernel) rfl ⟨⟨rfl, rfl⟩, ⟨Nat.le_of_ble_eq_true rfl, Nat.le_of_ble_eq_true rfl⟩, Nat.le_of_ble_eq_true rfl, Nat.le_of_ble_eq_true rfl⟩ hP hK hN [0, 1, 2, 3] [0] rfl rfl 0 2 rfl rfl rfl (lv_nil hl) rfl (Nat.le_of_ble_eq_true rfl) dX2_moversHand_5 ?_
  refine jr_ite (c0 := vmov = 0) (a := aF) (b := aG) rfl (fun c_1 => ?_) (fun c_1 => ?_)
  · skip
    refine va_get (D := D) (ci := 0) (v := .long vh1) (C := RX0) (T := TX0) (N := 5) hx hb hts inX2_moversHand_X0 hown hK hP 1 rfl rfl 0 (by decide) (hts (.fieldLink RX2 91 "ArchivistTricks$Archivist" "hand" "J") (by decide +kernel)) (fun _ h9 => h9) rfl dX2_moversHand_8 ?_
    exact jr_lret hx hb hr hlocks dX2_moversHand_11 (by simp only [j_X2_moversHand, if_pos c_1])
  · skip
    refine va_get (D := D) (ci := 0) (v := .long vh2) (C := RX0) (T := TX0) (N := 5) hx hb hts inX2_moversHand_X0 hown hK hP 2 rfl rfl 0 (by decide) (hts (.fieldLink RX2 91 "ArchivistTricks$Archivist" "hand" "J") (by decide +kernel)) (fun _ h9 => h9) rfl dX2_moversHand_8 ?_
    exact jr_lret hx hb hr hlocks dX2_moversHand_11 (by simp only [j_X2_moversHand, if_neg c_1])

abbrev rX2_takerBy : Room := { frames := 2, cells := 0, slots := 0, locals := 42 }
def j_X2_takerBy (vtr : Int32) (vled : Int32) (vmov : Int32) (x0 : Int32) : Int32 := (if j_X2_beats x0 vled vtr = 0 then 1 - vmov else vmov)
theorem inX2_takerBy_X2 : ∀ w ∈ u_ws RX2 TX2 11, w ∈ wsX2_takerBy := by decide +kernel
set_option maxRecDepth 100000 in
set_option maxHeartbeats 4000000 in
theorem c_X2_takerBy {l : Launch} {D : va_G} (a0 : Nat) (aR : Nat) (aF : Nat) (aG : Nat) (cI : ClassId) (vrow : Nat → Int32) (vdrawn : Int32) (vtr : Int32) (vled : Int32) (vmov : Int32) (vw1 : Int32) (vw2 : Int32) (veo : Option Nat) (veb : Int32) (vh1 : Int64) (vt1 : Int64) (vp1 : Int32) (vk1 : Int32) (vg1 : Int32) (vh2 : Int64) (vt2 : Int64) (vp2 : Int32) (vk2 : Int32) (vg2 : Int32) (x0 : Int32) : jR l yX2_takerBy wsX2_takerBy rX2_takerBy D [.ref a0, .int x0] (jC a0 aR aF aG cI vrow vdrawn vtr vled vmov vw1 vw2 veo veb vh1 vt1 vp1 vk1 vg1 vh2 vt2 vp2 vk2 vg2) [(cI, .int)] (.int (j_X2_takerBy vtr vled vmov x0)) := by
  refine jR_of (cc := cX2_takerBy) (maxL := 2) (ret := (some .int)) (by decide) rfl (Nat.le_of_ble_eq_true rfl) ?_
  intro p e s m below meth c ls S hr hlocks hP hK hN hl
  obtain ⟨hx, hb, hml, hown, hts⟩ := id S
  have hl : lv_has ls 2 [(0, .ref a0), (1, .int x0)] := hl
  refine lv_iload_n hx hb dX2_takerBy_0 rfl (lv_at hl 1 rfl) ?_
  refine lv_aload_n hx hb dX2_takerBy_1 rfl (lv_at hl 0 rfl) ?_
  refine va_get (D := D) (ci := 2) (v := .int vled) (C := RX2) (T := TX2) (N := 11) hx hb hts inX2_takerBy_X2 hown hK hP 0 rfl rfl 5 (by decide) (hts (.fieldLink RX2 30 "ArchivistTricks" "ledCard" "I") (by decide +kernel)) (fun _ h9 => h9) rfl dX2_takerBy_2 ?_
  refine lv_aload_n hx hb dX2_takerBy_5 rfl (lv_at hl 0 rfl) ?_
  refine va_get (D := D) (ci := 2) (v := .int vtr) (C := RX2) (T := TX2) (N := 11) hx hb hts inX2_takerBy_X2 hown hK hP 0 rfl rfl 4 (by decide) (hts (.fieldLink RX2 27 "ArchivistTricks" "trumpProvenance" "I") (by decide +kernel)) (fun _ h9 => h9) rfl dX2_takerBy_6 ?_
  refine jr_callS (n := 3) (As := [.int x0, .int vled, .int vtr]) (rest := []) S (c_X2_beats x0 vled vtr) gX2_takerBy_X2_beats rfl (by decide +kernel) rfl ⟨⟨rfl, rfl⟩, ⟨Nat.le_of_ble_eq_true rfl, Nat.le_of_ble_eq_true rfl⟩, Nat.le_of_ble_eq_true rfl, Nat.le_of_ble_eq_true rfl⟩ hP hK hN [] [] rfl rfl (lv_nil hl) rfl (Nat.le_of_ble_eq_true rfl) dX2_takerBy_9 ?_
  refine lv_if_eq (tgt := 22) hx hb dX2_takerBy_12 (by decide) (fun c_1 => ?_) (fun c_1 => ?_)
  · skip
    refine lv_iconst (v := 1) hx hb dX2_takerBy_22 (by decide) ?_
    refine lv_aload_n hx hb dX2_takerBy_23 rfl (lv_at hl 0 rfl) ?_
    refine va_get (D := D) (ci := 2) (v := .int vmov) (C := RX2) (T := TX2) (N := 11) hx hb hts inX2_takerBy_X2 hown hK hP 0 rfl rfl 6 (by decide) (hts (.fieldLink RX2 33 "ArchivistTricks" "mover" "I") (by decide +kernel)) (fun _ h9 => h9) rfl dX2_takerBy_24 ?_
    refine lv_isub hx hb dX2_takerBy_27 ?_
    exact jr_iret hx hb hr hlocks dX2_takerBy_28 (by simp only [j_X2_takerBy, if_pos c_1])
  · skip
    refine lv_aload_n hx hb dX2_takerBy_15 rfl (lv_at hl 0 rfl) ?_
    refine va_get (D := D) (ci := 2) (v := .int vmov) (C := RX2) (T := TX2) (N := 11) hx hb hts inX2_takerBy_X2 hown hK hP 0 rfl rfl 6 (by decide) (hts (.fieldLink RX2 33 "ArchivistTricks" "mover" "I") (by decide +kernel)) (fun _ h9 => h9) rfl dX2_takerBy_16 ?_
    refine lv_goto (tgt := 28) hx hb dX2_takerBy_19 (by decide) ?_
    exact jr_iret hx hb hr hlocks dX2_takerBy_28 (by simp only [j_X2_takerBy, if_neg c_1])

abbrev rX2_reasonAgainst : Room := { frames := 2, cells := 0, slots := 0, locals := 50 }
def j_X2_reasonAgainst (vdrawn : Int32) (vtr : Int32) (vled : Int32) (vmov : Int32) (vh1 : Int64) (vh2 : Int64) (x0 : Int32) : Int32 := (if vmov = (-1) then 1 else (if j_X2_has (j_X2_moversHand vmov vh1 vh2) x0 = 0 then 2 else (if vled = (-1) then j_X2_reasonAgainstLeading (j_X2_moversHand vmov vh1 vh2) x0 else (if 42 ≤ vdrawn then j_X2_reasonAgainstReplying (j_X2_moversHand vmov vh1 vh2) x0 vled vtr else 0))))
theorem inX2_reasonAgainst_X2 : ∀ w ∈ u_ws RX2 TX2 11, w ∈ wsX2_reasonAgainst := by decide +kernel
set_option maxRecDepth 100000 in
set_option maxHeartbeats 4000000 in
theorem c_X2_reasonAgainst {l : Launch} {D : va_G} (a0 : Nat) (aR : Nat) (aF : Nat) (aG : Nat) (cI : ClassId) (vrow : Nat → Int32) (vdrawn : Int32) (vtr : Int32) (vled : Int32) (vmov : Int32) (vw1 : Int32) (vw2 : Int32) (veo : Option Nat) (veb : Int32) (vh1 : Int64) (vt1 : Int64) (vp1 : Int32) (vk1 : Int32) (vg1 : Int32) (vh2 : Int64) (vt2 : Int64) (vp2 : Int32) (vk2 : Int32) (vg2 : Int32) (x0 : Int32) : jR l yX2_reasonAgainst wsX2_reasonAgainst rX2_reasonAgainst D [.ref a0, .int x0] (jC a0 aR aF aG cI vrow vdrawn vtr vled vmov vw1 vw2 veo veb vh1 vt1 vp1 vk1 vg1 vh2 vt2 vp2 vk2 vg2) [(cI, .int)] (.int (j_X2_reasonAgainst vdrawn vtr vled vmov vh1 vh2 x0)) := by
  refine jR_of (cc := cX2_reasonAgainst) (maxL := 4) (ret := (some .int)) (by decide) rfl (Nat.le_of_ble_eq_true rfl) ?_
  intro p e s m below meth c ls S hr hlocks hP hK hN hl
  obtain ⟨hx, hb, hml, hown, hts⟩ := id S
  have hl : lv_has ls 4 [(0, .ref a0), (1, .int x0)] := hl
  refine lv_aload_n hx hb dX2_reasonAgainst_0 rfl (lv_at hl 0 rfl) ?_
  refine va_get (D := D) (ci := 2) (v := .int vmov) (C := RX2) (T := TX2) (N := 11) hx hb hts inX2_reasonAgainst_X2 hown hK hP 0 rfl rfl 6 (by decide) (hts (.fieldLink RX2 33 "ArchivistTricks" "mover" "I") (by decide +kernel)) (fun _ h9 => h9) rfl dX2_reasonAgainst_1 ?_
  refine lv_iconst (v := (-1)) hx hb dX2_reasonAgainst_4 (by decide) ?_
  refine lv_icmp_ne (tgt := 10) hx hb dX2_reasonAgainst_5 (by decide) (fun c_1 => ?_) (fun c_1 => ?_)
  · skip
    refine lv_aload_n hx hb dX2_reasonAgainst_10 rfl (lv_at hl 0 rfl) ?_
    refine jr_callV (n := 0) (C := RX2) (As := []) (rest := []) S (c_X2_moversHand a0 aR aF aG cI vrow vdrawn vtr vled vmov vw1 vw2 veo veb vh1 vt1 vp1 vk1 vg1 vh2 vt2 vp2 vk2 vg2) gX2_reasonAgainst_X2_moversHand rfl (by decide +kernel) rfl ⟨⟨rfl, rfl⟩, ⟨Nat.le_of_ble_eq_true rfl, Nat.le_of_ble_eq_true rfl⟩, Nat.le_of_ble_eq_true rfl, Nat.le_of_ble_eq_true rfl⟩ hP hK hN [0, 1, 2, 3] [0] rfl rfl 0 2 rfl rfl rfl (lv_nil hl) rfl (Nat.le_of_ble_eq_true rfl) dX2_reasonAgainst_11 ?_
    refine lv_lstore_n (lv' := [(2, .long (j_X2_moversHand vmov vh1 vh2)), (0, .ref a0), (1, .int x0)]) hx hb dX2_reasonAgainst_14 rfl hl (by decide) rfl (fun ls hl => ?_)
    refine lv_lload_n hx hb dX2_reasonAgainst_15 rfl (lv_at hl 0 rfl) ?_
    refine lv_iload_n hx hb dX2_reasonAgainst_16 rfl (lv_at hl 2 rfl) ?_
    refine jr_callS (n := 2) (As := [.long (j_X2_moversHand vmov vh1 vh2), .int x0]) (rest := []) S (c_X2_has (j_X2_moversHand vmov vh1 vh2) x0) gX2_reasonAgainst_X2_has rfl (by decide +kernel) rfl ⟨⟨rfl, rfl⟩, ⟨Nat.le_of_ble_eq_true rfl, Nat.le_of_ble_eq_true rfl⟩, Nat.le_of_ble_eq_true rfl, Nat.le_of_ble_eq_true rfl⟩ hP hK hN [] [] rfl rfl (lv_nil hl) rfl (Nat.le_of_ble_eq_true rfl) dX2_reasonAgainst_17 ?_
    refine lv_if_ne (tgt := 25) hx hb dX2_reasonAgainst_20 (by decide) (fun c_2 => ?_) (fun c_2 => ?_)
    · skip
      refine lv_aload_n hx hb dX2_reasonAgainst_25 rfl (lv_at hl 1 rfl) ?_
      refine va_get (D := D) (ci := 2) (v := .int vled) (C := RX2) (T := TX2) (N := 11) hx hb hts inX2_reasonAgainst_X2 hown hK hP 0 rfl rfl 5 (by decide) (hts (.fieldLink RX2 30 "ArchivistTricks" "ledCard" "I") (by decide +kernel)) (fun _ h9 => h9) rfl dX2_reasonAgainst_26 ?_
      refine lv_iconst (v := (-1)) hx hb dX2_reasonAgainst_29 (by decide) ?_
      refine lv_icmp_ne (tgt := 39) hx hb dX2_reasonAgainst_30 (by decide) (fun c_3 => ?_) (fun c_3 => ?_)
      · skip
        refine lv_aload_n hx hb dX2_reasonAgainst_39 rfl (lv_at hl 1 rfl) ?_
        refine va_get (D := D) (ci := 2) (v := .int vdrawn) (C := RX2) (T := TX2) (N := 11) hx hb hts inX2_reasonAgainst_X2 hown hK hP 0 rfl rfl 3 (by decide) (hts (.fieldLink RX2 23 "ArchivistTricks" "drawn" "I") (by decide +kernel)) (fun _ h9 => h9) rfl dX2_reasonAgainst_40 ?_
        refine lv_bipush (v := 42) hx hb dX2_reasonAgainst_43 (by decide) ?_
        refine lv_icmp_ge (tgt := 52) hx hb dX2_reasonAgainst_45 (by decide) (fun c_4 => ?_) (fun c_4 => ?_)
        · skip
          refine lv_lload_n hx hb dX2_reasonAgainst_52 rfl (lv_at hl 0 rfl) ?_
          refine lv_iload_n hx hb dX2_reasonAgainst_53 rfl (lv_at hl 2 rfl) ?_
          refine lv_aload_n hx hb dX2_reasonAgainst_54 rfl (lv_at hl 1 rfl) ?_
          refine va_get (D := D) (ci := 2) (v := .int vled) (C := RX2) (T := TX2) (N := 11) hx hb hts inX2_reasonAgainst_X2 hown hK hP 0 rfl rfl 5 (by decide) (hts (.fieldLink RX2 30 "ArchivistTricks" "ledCard" "I") (by decide +kernel)) (fun _ h9 => h9) rfl dX2_reasonAgainst_55 ?_
          refine lv_aload_n hx hb dX2_reasonAgainst_58 rfl (lv_at hl 1 rfl) ?_
          refine va_get (D := D) (ci := 2) (v := .int vtr) (C := RX2) (T := TX2) (N := 11) hx hb hts inX2_reasonAgainst_X2 hown hK hP 0 rfl rfl 4 (by decide) (hts (.fieldLink RX2 27 "ArchivistTricks" "trumpProvenance" "I") (by decide +kernel)) (fun _ h9 => h9) rfl dX2_reasonAgainst_59 ?_
          refine jr_callS (n := 4) (As := [.long (j_X2_moversHand vmov vh1 vh2), .int x0, .int vled, .int vtr]) (rest := []) S (c_X2_reasonAgainstReplying (j_X2_moversHand vmov vh1 vh2) x0 vled vtr) gX2_reasonAgainst_X2_reasonAgainstReplying rfl (by decide +kernel) rfl ⟨⟨rfl, rfl⟩, ⟨Nat.le_of_ble_eq_true rfl, Nat.le_of_ble_eq_true rfl⟩, Nat.le_of_ble_eq_true rfl, Nat.le_of_ble_eq_true rfl⟩ hP hK hN [] [] rfl rfl (lv_nil hl) rfl (Nat.le_of_ble_eq_true rfl) dX2_reasonAgainst_62 ?_
          exact jr_iret hx hb hr hlocks dX2_reasonAgainst_65 (by simp only [j_X2_reasonAgainst, if_neg c_1, if_neg c_2, if_neg c_3, if_pos c_4])
        · skip
          refine lv_iconst (v := 0) hx hb dX2_reasonAgainst_48 (by decide) ?_
          refine lv_goto (tgt := 65) hx hb dX2_reasonAgainst_49 (by decide) ?_
          exact jr_iret hx hb hr hlocks dX2_reasonAgainst_65 (by simp only [j_X2_reasonAgainst, if_neg c_1, if_neg c_2, if_neg c_3, if_neg c_4])
      · skip
        refine lv_lload_n hx hb dX2_reasonAgainst_33 rfl (lv_at hl 0 rfl) ?_
        refine lv_iload_n hx hb dX2_reasonAgainst_34 rfl (lv_at hl 2 rfl) ?_
        refine jr_callS (n := 2) (As := [.long (j_X2_moversHand vmov vh1 vh2), .int x0]) (rest := []) S (c_X2_reasonAgainstLeading (j_X2_moversHand vmov vh1 vh2) x0) gX2_reasonAgainst_X2_reasonAgainstLeading rfl (by decide +kernel) rfl ⟨⟨rfl, rfl⟩, ⟨Nat.le_of_ble_eq_true rfl, Nat.le_of_ble_eq_true rfl⟩, Nat.le_of_ble_eq_true rfl, Nat.le_of_ble_eq_true rfl⟩ hP hK hN [] [] rfl rfl (lv_nil hl) rfl (Nat.le_of_ble_eq_true rfl) dX2_reasonAgainst_35 ?_
        exact jr_iret hx hb hr hlocks dX2_reasonAgainst_38 (by simp only [j_X2_reasonAgainst, if_neg c_1, if_neg c_2, if_pos c_3])
    · skip
      refine lv_iconst (v := 2) hx hb dX2_reasonAgainst_23 (by decide) ?_
      exact jr_iret hx hb hr hlocks dX2_reasonAgainst_24 (by simp only [j_X2_reasonAgainst, if_neg c_1, if_pos c_2])
  · skip
    refine lv_iconst (v := 1) hx hb dX2_reasonAgainst_8 (by decide) ?_
    exact jr_iret hx hb hr hlocks dX2_reasonAgainst_9 (by simp only [j_X2_reasonAgainst, if_pos c_1])

abbrev rX2_isPlaying : Room := { frames := 0, cells := 0, slots := 0, locals := 0 }
def j_X2_isPlaying (vmov : Int32) : Int32 := (if vmov = (-1) then 0 else 1)
theorem inX2_isPlaying_X2 : ∀ w ∈ u_ws RX2 TX2 11, w ∈ wsX2_isPlaying := by decide +kernel
set_option maxRecDepth 100000 in
set_option maxHeartbeats 4000000 in
theorem c_X2_isPlaying {l : Launch} {D : va_G} (a0 : Nat) (aR : Nat) (aF : Nat) (aG : Nat) (cI : ClassId) (vrow : Nat → Int32) (vdrawn : Int32) (vtr : Int32) (vled : Int32) (vmov : Int32) (vw1 : Int32) (vw2 : Int32) (veo : Option Nat) (veb : Int32) (vh1 : Int64) (vt1 : Int64) (vp1 : Int32) (vk1 : Int32) (vg1 : Int32) (vh2 : Int64) (vt2 : Int64) (vp2 : Int32) (vk2 : Int32) (vg2 : Int32) : jR l yX2_isPlaying wsX2_isPlaying rX2_isPlaying D [.ref a0] (jC a0 aR aF aG cI vrow vdrawn vtr vled vmov vw1 vw2 veo veb vh1 vt1 vp1 vk1 vg1 vh2 vt2 vp2 vk2 vg2) [(cI, .int)] (.int (j_X2_isPlaying vmov)) := by
  refine jR_of (cc := cX2_isPlaying) (maxL := 1) (ret := (some .boolean)) (by decide) rfl (Nat.le_of_ble_eq_true rfl) ?_
  intro p e s m below meth c ls S hr hlocks hP hK hN hl
  obtain ⟨hx, hb, hml, hown, hts⟩ := id S
  have hl : lv_has ls 1 [(0, .ref a0)] := hl
  refine lv_aload_n hx hb dX2_isPlaying_0 rfl (lv_at hl 0 rfl) ?_
  refine va_get (D := D) (ci := 2) (v := .int vmov) (C := RX2) (T := TX2) (N := 11) hx hb hts inX2_isPlaying_X2 hown hK hP 0 rfl rfl 6 (by decide) (hts (.fieldLink RX2 33 "ArchivistTricks" "mover" "I") (by decide +kernel)) (fun _ h9 => h9) rfl dX2_isPlaying_1 ?_
  refine lv_iconst (v := (-1)) hx hb dX2_isPlaying_4 (by decide) ?_
  refine lv_icmp_eq (tgt := 12) hx hb dX2_isPlaying_5 (by decide) (fun c_1 => ?_) (fun c_1 => ?_)
  · skip
    refine lv_iconst (v := 0) hx hb dX2_isPlaying_12 (by decide) ?_
    exact jr_zret hx hb hr hlocks dX2_isPlaying_13 rfl (by simp only [j_X2_isPlaying, if_pos c_1])
  · skip
    refine lv_iconst (v := 1) hx hb dX2_isPlaying_8 (by decide) ?_
    refine lv_goto (tgt := 13) hx hb dX2_isPlaying_9 (by decide) ?_
    exact jr_zret hx hb hr hlocks dX2_isPlaying_13 rfl (by simp only [j_X2_isPlaying, if_neg c_1])

abbrev rX2_turn : Room := { frames := 0, cells := 0, slots := 0, locals := 0 }
def j_X2_turn (vmov : Int32) : Int32 := vmov
theorem inX2_turn_X2 : ∀ w ∈ u_ws RX2 TX2 11, w ∈ wsX2_turn := by decide +kernel
set_option maxRecDepth 100000 in
set_option maxHeartbeats 4000000 in
theorem c_X2_turn {l : Launch} {D : va_G} (a0 : Nat) (aR : Nat) (aF : Nat) (aG : Nat) (cI : ClassId) (vrow : Nat → Int32) (vdrawn : Int32) (vtr : Int32) (vled : Int32) (vmov : Int32) (vw1 : Int32) (vw2 : Int32) (veo : Option Nat) (veb : Int32) (vh1 : Int64) (vt1 : Int64) (vp1 : Int32) (vk1 : Int32) (vg1 : Int32) (vh2 : Int64) (vt2 : Int64) (vp2 : Int32) (vk2 : Int32) (vg2 : Int32) : jR l yX2_turn wsX2_turn rX2_turn D [.ref a0] (jC a0 aR aF aG cI vrow vdrawn vtr vled vmov vw1 vw2 veo veb vh1 vt1 vp1 vk1 vg1 vh2 vt2 vp2 vk2 vg2) [(cI, .int)] (.int (j_X2_turn vmov)) := by
  refine jR_of (cc := cX2_turn) (maxL := 1) (ret := (some .int)) (by decide) rfl (Nat.le_of_ble_eq_true rfl) ?_
  intro p e s m below meth c ls S hr hlocks hP hK hN hl
  obtain ⟨hx, hb, hml, hown, hts⟩ := id S
  have hl : lv_has ls 1 [(0, .ref a0)] := hl
  refine lv_aload_n hx hb dX2_turn_0 rfl (lv_at hl 0 rfl) ?_
  refine va_get (D := D) (ci := 2) (v := .int vmov) (C := RX2) (T := TX2) (N := 11) hx hb hts inX2_turn_X2 hown hK hP 0 rfl rfl 6 (by decide) (hts (.fieldLink RX2 33 "ArchivistTricks" "mover" "I") (by decide +kernel)) (fun _ h9 => h9) rfl dX2_turn_1 ?_
  exact jr_iret hx hb hr hlocks dX2_turn_4 (by simp only [j_X2_turn])

abbrev rX2_led : Room := { frames := 0, cells := 0, slots := 0, locals := 0 }
def j_X2_led (vled : Int32) : Int32 := vled
theorem inX2_led_X2 : ∀ w ∈ u_ws RX2 TX2 11, w ∈ wsX2_led := by decide +kernel
set_option maxRecDepth 100000 in
set_option maxHeartbeats 4000000 in
theorem c_X2_led {l : Launch} {D : va_G} (a0 : Nat) (aR : Nat) (aF : Nat) (aG : Nat) (cI : ClassId) (vrow : Nat → Int32) (vdrawn : Int32) (vtr : Int32) (vled : Int32) (vmov : Int32) (vw1 : Int32) (vw2 : Int32) (veo : Option Nat) (veb : Int32) (vh1 : Int64) (vt1 : Int64) (vp1 : Int32) (vk1 : Int32) (vg1 : Int32) (vh2 : Int64) (vt2 : Int64) (vp2 : Int32) (vk2 : Int32) (vg2 : Int32) : jR l yX2_led wsX2_led rX2_led D [.ref a0] (jC a0 aR aF aG cI vrow vdrawn vtr vled vmov vw1 vw2 veo veb vh1 vt1 vp1 vk1 vg1 vh2 vt2 vp2 vk2 vg2) [(cI, .int)] (.int (j_X2_led vled)) := by
  refine jR_of (cc := cX2_led) (maxL := 1) (ret := (some .int)) (by decide) rfl (Nat.le_of_ble_eq_true rfl) ?_
  intro p e s m below meth c ls S hr hlocks hP hK hN hl
  obtain ⟨hx, hb, hml, hown, hts⟩ := id S
  have hl : lv_has ls 1 [(0, .ref a0)] := hl
  refine lv_aload_n hx hb dX2_led_0 rfl (lv_at hl 0 rfl) ?_
  refine va_get (D := D) (ci := 2) (v := .int vled) (C := RX2) (T := TX2) (N := 11) hx hb hts inX2_led_X2 hown hK hP 0 rfl rfl 5 (by decide) (hts (.fieldLink RX2 30 "ArchivistTricks" "ledCard" "I") (by decide +kernel)) (fun _ h9 => h9) rfl dX2_led_1 ?_
  exact jr_iret hx hb hr hlocks dX2_led_4 (by simp only [j_X2_led])

abbrev rX2_trumps : Room := { frames := 0, cells := 0, slots := 0, locals := 0 }
def j_X2_trumps (vtr : Int32) : Int32 := vtr
theorem inX2_trumps_X2 : ∀ w ∈ u_ws RX2 TX2 11, w ∈ wsX2_trumps := by decide +kernel
set_option maxRecDepth 100000 in
set_option maxHeartbeats 4000000 in
theorem c_X2_trumps {l : Launch} {D : va_G} (a0 : Nat) (aR : Nat) (aF : Nat) (aG : Nat) (cI : ClassId) (vrow : Nat → Int32) (vdrawn : Int32) (vtr : Int32) (vled : Int32) (vmov : Int32) (vw1 : Int32) (vw2 : Int32) (veo : Option Nat) (veb : Int32) (vh1 : Int64) (vt1 : Int64) (vp1 : Int32) (vk1 : Int32) (vg1 : Int32) (vh2 : Int64) (vt2 : Int64) (vp2 : Int32) (vk2 : Int32) (vg2 : Int32) : jR l yX2_trumps wsX2_trumps rX2_trumps D [.ref a0] (jC a0 aR aF aG cI vrow vdrawn vtr vled vmov vw1 vw2 veo veb vh1 vt1 vp1 vk1 vg1 vh2 vt2 vp2 vk2 vg2) [(cI, .int)] (.int (j_X2_trumps vtr)) := by
  refine jR_of (cc := cX2_trumps) (maxL := 1) (ret := (some .int)) (by decide) rfl (Nat.le_of_ble_eq_true rfl) ?_
  intro p e s m below meth c ls S hr hlocks hP hK hN hl
  obtain ⟨hx, hb, hml, hown, hts⟩ := id S
  have hl : lv_has ls 1 [(0, .ref a0)] := hl
  refine lv_aload_n hx hb dX2_trumps_0 rfl (lv_at hl 0 rfl) ?_
  refine va_get (D := D) (ci := 2) (v := .int vtr) (C := RX2) (T := TX2) (N := 11) hx hb hts inX2_trumps_X2 hown hK hP 0 rfl rfl 4 (by decide) (hts (.fieldLink RX2 27 "ArchivistTricks" "trumpProvenance" "I") (by decide +kernel)) (fun _ h9 => h9) rfl dX2_trumps_1 ?_
  exact jr_iret hx hb hr hlocks dX2_trumps_4 (by simp only [j_X2_trumps])

abbrev rX2_pile : Room := { frames := 0, cells := 0, slots := 0, locals := 0 }
def j_X2_pile (vdrawn : Int32) : Int32 := 42 - vdrawn
theorem inX2_pile_X2 : ∀ w ∈ u_ws RX2 TX2 11, w ∈ wsX2_pile := by decide +kernel
set_option maxRecDepth 100000 in
set_option maxHeartbeats 4000000 in
theorem c_X2_pile {l : Launch} {D : va_G} (a0 : Nat) (aR : Nat) (aF : Nat) (aG : Nat) (cI : ClassId) (vrow : Nat → Int32) (vdrawn : Int32) (vtr : Int32) (vled : Int32) (vmov : Int32) (vw1 : Int32) (vw2 : Int32) (veo : Option Nat) (veb : Int32) (vh1 : Int64) (vt1 : Int64) (vp1 : Int32) (vk1 : Int32) (vg1 : Int32) (vh2 : Int64) (vt2 : Int64) (vp2 : Int32) (vk2 : Int32) (vg2 : Int32) : jR l yX2_pile wsX2_pile rX2_pile D [.ref a0] (jC a0 aR aF aG cI vrow vdrawn vtr vled vmov vw1 vw2 veo veb vh1 vt1 vp1 vk1 vg1 vh2 vt2 vp2 vk2 vg2) [(cI, .int)] (.int (j_X2_pile vdrawn)) := by
  refine jR_of (cc := cX2_pile) (maxL := 1) (ret := (some .int)) (by decide) rfl (Nat.le_of_ble_eq_true rfl) ?_
  intro p e s m below meth c ls S hr hlocks hP hK hN hl
  obtain ⟨hx, hb, hml, hown, hts⟩ := id S
  have hl : lv_has ls 1 [(0, .ref a0)] := hl
  refine lv_bipush (v := 42) hx hb dX2_pile_0 (by decide) ?_
  refine lv_aload_n hx hb dX2_pile_2 rfl (lv_at hl 0 rfl) ?_
  refine va_get (D := D) (ci := 2) (v := .int vdrawn) (C := RX2) (T := TX2) (N := 11) hx hb hts inX2_pile_X2 hown hK hP 0 rfl rfl 3 (by decide) (hts (.fieldLink RX2 23 "ArchivistTricks" "drawn" "I") (by decide +kernel)) (fun _ h9 => h9) rfl dX2_pile_3 ?_
  refine lv_isub hx hb dX2_pile_6 ?_
  exact jr_iret hx hb hr hlocks dX2_pile_7 (by simp only [j_X2_pile])

abbrev rX2_wonByFirst : Room := { frames := 0, cells := 0, slots := 0, locals := 0 }
def j_X2_wonByFirst (vw1 : Int32) : Int32 := vw1
theorem inX2_wonByFirst_X2 : ∀ w ∈ u_ws RX2 TX2 11, w ∈ wsX2_wonByFirst := by decide +kernel
set_option maxRecDepth 100000 in
set_option maxHeartbeats 4000000 in
theorem c_X2_wonByFirst {l : Launch} {D : va_G} (a0 : Nat) (aR : Nat) (aF : Nat) (aG : Nat) (cI : ClassId) (vrow : Nat → Int32) (vdrawn : Int32) (vtr : Int32) (vled : Int32) (vmov : Int32) (vw1 : Int32) (vw2 : Int32) (veo : Option Nat) (veb : Int32) (vh1 : Int64) (vt1 : Int64) (vp1 : Int32) (vk1 : Int32) (vg1 : Int32) (vh2 : Int64) (vt2 : Int64) (vp2 : Int32) (vk2 : Int32) (vg2 : Int32) : jR l yX2_wonByFirst wsX2_wonByFirst rX2_wonByFirst D [.ref a0] (jC a0 aR aF aG cI vrow vdrawn vtr vled vmov vw1 vw2 veo veb vh1 vt1 vp1 vk1 vg1 vh2 vt2 vp2 vk2 vg2) [(cI, .int)] (.int (j_X2_wonByFirst vw1)) := by
  refine jR_of (cc := cX2_wonByFirst) (maxL := 1) (ret := (some .int)) (by decide) rfl (Nat.le_of_ble_eq_true rfl) ?_
  intro p e s m below meth c ls S hr hlocks hP hK hN hl
  obtain ⟨hx, hb, hml, hown, hts⟩ := id S
  have hl : lv_has ls 1 [(0, .ref a0)] := hl
  refine lv_aload_n hx hb dX2_wonByFirst_0 rfl (lv_at hl 0 rfl) ?_
  refine va_get (D := D) (ci := 2) (v := .int vw1) (C := RX2) (T := TX2) (N := 11) hx hb hts inX2_wonByFirst_X2 hown hK hP 0 rfl rfl 7 (by decide) (hts (.fieldLink RX2 36 "ArchivistTricks" "firstWins" "I") (by decide +kernel)) (fun _ h9 => h9) rfl dX2_wonByFirst_1 ?_
  exact jr_iret hx hb hr hlocks dX2_wonByFirst_4 (by simp only [j_X2_wonByFirst])

abbrev rX2_wonBySecond : Room := { frames := 0, cells := 0, slots := 0, locals := 0 }
def j_X2_wonBySecond (vw2 : Int32) : Int32 := vw2
theorem inX2_wonBySecond_X2 : ∀ w ∈ u_ws RX2 TX2 11, w ∈ wsX2_wonBySecond := by decide +kernel
set_option maxRecDepth 100000 in
set_option maxHeartbeats 4000000 in
theorem c_X2_wonBySecond {l : Launch} {D : va_G} (a0 : Nat) (aR : Nat) (aF : Nat) (aG : Nat) (cI : ClassId) (vrow : Nat → Int32) (vdrawn : Int32) (vtr : Int32) (vled : Int32) (vmov : Int32) (vw1 : Int32) (vw2 : Int32) (veo : Option Nat) (veb : Int32) (vh1 : Int64) (vt1 : Int64) (vp1 : Int32) (vk1 : Int32) (vg1 : Int32) (vh2 : Int64) (vt2 : Int64) (vp2 : Int32) (vk2 : Int32) (vg2 : Int32) : jR l yX2_wonBySecond wsX2_wonBySecond rX2_wonBySecond D [.ref a0] (jC a0 aR aF aG cI vrow vdrawn vtr vled vmov vw1 vw2 veo veb vh1 vt1 vp1 vk1 vg1 vh2 vt2 vp2 vk2 vg2) [(cI, .int)] (.int (j_X2_wonBySecond vw2)) := by
  refine jR_of (cc := cX2_wonBySecond) (maxL := 1) (ret := (some .int)) (by decide) rfl (Nat.le_of_ble_eq_true rfl) ?_
  intro p e s m below meth c ls S hr hlocks hP hK hN hl
  obtain ⟨hx, hb, hml, hown, hts⟩ := id S
  have hl : lv_has ls 1 [(0, .ref a0)] := hl
  refine lv_aload_n hx hb dX2_wonBySecond_0 rfl (lv_at hl 0 rfl) ?_
  refine va_get (D := D) (ci := 2) (v := .int vw2) (C := RX2) (T := TX2) (N := 11) hx hb hts inX2_wonBySecond_X2 hown hK hP 0 rfl rfl 8 (by decide) (hts (.fieldLink RX2 39 "ArchivistTricks" "secondWins" "I") (by decide +kernel)) (fun _ h9 => h9) rfl dX2_wonBySecond_1 ?_
  exact jr_iret hx hb hr hlocks dX2_wonBySecond_4 (by simp only [j_X2_wonBySecond])

abbrev rX2_choices : Room := { frames := 3, cells := 0, slots := 0, locals := 73 }
def j_X2_choices_4 (vdrawn : Int32) (vtr : Int32) (vled : Int32) (vmov : Int32) (vh1 : Int64) (vh2 : Int64) : Nat → Nat → Int32 → Int32
  | 0, i, y1 => y1
  | n + 1, i, y1 => (if j_X2_reasonAgainst vdrawn vtr vled vmov vh1 vh2 (nI i) = 0 then j_X2_choices_4 vdrawn vtr vled vmov vh1 vh2 n (i + 1) (y1 + 1) else j_X2_choices_4 vdrawn vtr vled vmov vh1 vh2 n (i + 1) y1)
def j_X2_choices (vdrawn : Int32) (vtr : Int32) (vled : Int32) (vmov : Int32) (vh1 : Int64) (vh2 : Int64) : Int32 := j_X2_choices_4 vdrawn vtr vled vmov vh1 vh2 42 0 0
set_option maxRecDepth 100000 in
set_option maxHeartbeats 4000000 in
theorem c_X2_choices {l : Launch} {D : va_G} (a0 : Nat) (aR : Nat) (aF : Nat) (aG : Nat) (cI : ClassId) (vrow : Nat → Int32) (vdrawn : Int32) (vtr : Int32) (vled : Int32) (vmov : Int32) (vw1 : Int32) (vw2 : Int32) (veo : Option Nat) (veb : Int32) (vh1 : Int64) (vt1 : Int64) (vp1 : Int32) (vk1 : Int32) (vg1 : Int32) (vh2 : Int64) (vt2 : Int64) (vp2 : Int32) (vk2 : Int32) (vg2 : Int32) : jR l yX2_choices wsX2_choices rX2_choices D [.ref a0] (jC a0 aR aF aG cI vrow vdrawn vtr vled vmov vw1 vw2 veo veb vh1 vt1 vp1 vk1 vg1 vh2 vt2 vp2 vk2 vg2) [(cI, .int)] (.int (j_X2_choices vdrawn vtr vled vmov vh1 vh2)) := by
  refine jR_of (cc := cX2_choices) (maxL := 3) (ret := (some .int)) (by decide) rfl (Nat.le_of_ble_eq_true rfl) ?_
  intro p e s m below meth c ls S hr hlocks hP hK hN hl
  obtain ⟨hx, hb, hml, hown, hts⟩ := id S
  have hl : lv_has ls 3 [(0, .ref a0)] := hl
  have loop4 : ∀ (n i : Nat) (y1 : Int32), i + n = 42 → j_X2_choices_4 vdrawn vtr vled vmov vh1 vh2 n i y1 = (j_X2_choices vdrawn vtr vled vmov vh1 vh2) → ∀ (ls : Array Slot), lv_has ls 3 [(2, .int (nI i)), (1, .int y1), (0, .ref a0)] → W p l e rX2_choices s m ([.ref a0] : List Value).toArray below meth c s.heap [] 0 0 (MQ below (k2_QcV (.int (j_X2_choices vdrawn vtr vled vmov vh1 vh2))) ([.ref a0] : List Value).toArray s 0 0 (fun _ => False)) (F0 m 4 ls []) := by
    intro n
    induction n with
    | zero =>
      intro i y1 hin hv ls hl
      have hge : (42 : Int32) ≤ nI i := by rw [show i = 42 by omega]; decide
      have hgl : ¬ nI i < (42 : Int32) := by rw [show i = 42 by omega]; decide
      refine lv_iload_n hx hb dX2_choices_4 rfl (lv_at hl 0 rfl) ?_
      refine lv_bipush (v := 42) hx hb dX2_choices_5 (by decide) ?_
      refine lv_icmp_ge (tgt := 27) hx hb dX2_choices_7 (by decide) (fun _ => ?_) (fun c_ => absurd hge c_)
      refine lv_iload_n hx hb dX2_choices_27 rfl (lv_at hl 1 rfl) ?_
      exact jr_iret hx hb hr hlocks dX2_choices_28 (by rw [← hv]; simp only [j_X2_choices_4, if_pos hge, if_neg hgl])
    | succ n ih =>
      intro i y1 hin hv ls hl
      have hge : ¬ (42 : Int32) ≤ nI i := nI_ge (a := i) (b := 42) (by omega) (by decide)
      have hgl : nI i < (42 : Int32) := nI_lt (a := i) (b := 42) (by omega) (by decide)
      refine lv_iload_n hx hb dX2_choices_4 rfl (lv_at hl 0 rfl) ?_
      refine lv_bipush (v := 42) hx hb dX2_choices_5 (by decide) ?_
      refine lv_icmp_ge (tgt := 27) hx hb dX2_choices_7 (by decide) (fun c_ => absurd c_ hge) (fun _ => ?_)
      refine lv_aload_n hx hb dX2_choices_10 rfl (lv_at hl 2 rfl) ?_
      refine lv_iload_n hx hb dX2_choices_11 rfl (lv_at hl 0 rfl) ?_
      refine jr_callV (n := 1) (C := RX2) (As := [.int (nI i)]) (rest := []) S (c_X2_reasonAgainst a0 aR aF aG cI vrow vdrawn vtr vled vmov vw1 vw2 veo veb vh1 vt1 vp1 vk1 vg1 vh2 vt2 vp2 vk2 vg2 (nI i)) gX2_choices_X2_reasonAgainst rfl (by decide +kernel) rfl ⟨⟨rfl, rfl⟩, ⟨Nat.le_of_ble_eq_true rfl, Nat.le_of_ble_eq_true rfl⟩, Nat.le_of_ble_eq_true rfl, Nat.le_of_ble_eq_true rfl⟩ hP hK hN [0, 1, 2, 3] [0] rfl rfl 0 2 rfl rfl rfl (lv_nil hl) rfl (Nat.le_of_ble_eq_true rfl) dX2_choices_12 ?_
      refine lv_if_ne (tgt := 21) hx hb dX2_choices_15 (by decide) (fun c_4001 => ?_) (fun c_4001 => ?_)
      · skip
        refine lv_iinc (v := nI (i + 1)) (lv' := [(2, .int (nI (i + 1))), (1, .int y1), (0, .ref a0)]) hx hb dX2_choices_21 hl (k := 0) rfl (nI_1 i) (by decide) rfl (fun ls hl => ?_)
        refine lv_goto (tgt := 4) hx hb dX2_choices_24 (by decide) ?_
        exact ih (i + 1) y1 (by omega) (by rw [← hv]; simp only [j_X2_choices_4, if_neg hge, if_pos hgl, if_neg c_4001]) ls (lv_sub hl [0, 1, 2] rfl)
      · skip
        refine lv_iinc (v := y1 + 1) (lv' := [(1, .int (y1 + 1)), (2, .int (nI i)), (0, .ref a0)]) hx hb dX2_choices_18 hl (k := 1) rfl rfl (by decide) rfl (fun ls hl => ?_)
        refine lv_iinc (v := nI (i + 1)) (lv' := [(2, .int (nI (i + 1))), (1, .int (y1 + 1)), (0, .ref a0)]) hx hb dX2_choices_21 hl (k := 1) rfl (nI_1 i) (by decide) rfl (fun ls hl => ?_)
        refine lv_goto (tgt := 4) hx hb dX2_choices_24 (by decide) ?_
        exact ih (i + 1) (y1 + 1) (by omega) (by rw [← hv]; simp only [j_X2_choices_4, if_neg hge, if_pos hgl, if_pos c_4001]) ls (lv_sub hl [0, 1, 2] rfl)
  refine lv_iconst (v := 0) hx hb dX2_choices_0 (by decide) ?_
  refine lv_istore_n (lv' := [(1, .int 0), (0, .ref a0)]) hx hb dX2_choices_1 rfl hl (by decide) rfl (fun ls hl => ?_)
  refine lv_iconst (v := 0) hx hb dX2_choices_2 (by decide) ?_
  refine lv_istore_n (lv' := [(2, .int 0), (1, .int 0), (0, .ref a0)]) hx hb dX2_choices_3 rfl hl (by decide) rfl (fun ls hl => ?_)
  exact loop4 42 0 0 rfl (by simp only [j_X2_choices]) ls (lv_sub (l' := [(2, .int (nI 0)), (1, .int 0), (0, .ref a0)]) hl [0, 1, 2] rfl)

abbrev rX2_handFrom : Room := { frames := 1, cells := 0, slots := 0, locals := 20 }
def j_X2_handFrom_5 (vrow : Nat → Int32) (x0 : Int32) : Nat → Nat → Int64 → Int64
  | 0, i, y2 => y2
  | n + 1, i, y2 => (if nI i < x0 then j_X2_handFrom_5 vrow x0 n (i + 1) y2 else (if x0 + 6 ≤ nI i then j_X2_handFrom_5 vrow x0 n (i + 1) y2 else j_X2_handFrom_5 vrow x0 n (i + 1) (y2 ||| (j_X2_bit (vrow (nI i).toNatClampNeg)))))
def j_X2_handFrom (vrow : Nat → Int32) (x0 : Int32) : Int64 := j_X2_handFrom_5 vrow x0 42 0 0
theorem inX2_handFrom_X2 : ∀ w ∈ u_ws RX2 TX2 11, w ∈ wsX2_handFrom := by decide +kernel
set_option maxRecDepth 100000 in
set_option maxHeartbeats 4000000 in
theorem c_X2_handFrom {l : Launch} {D : va_G} (a0 : Nat) (aR : Nat) (aF : Nat) (aG : Nat) (cI : ClassId) (vrow : Nat → Int32) (vdrawn : Int32) (vtr : Int32) (vled : Int32) (vmov : Int32) (vw1 : Int32) (vw2 : Int32) (veo : Option Nat) (veb : Int32) (vh1 : Int64) (vt1 : Int64) (vp1 : Int32) (vk1 : Int32) (vg1 : Int32) (vh2 : Int64) (vt2 : Int64) (vp2 : Int32) (vk2 : Int32) (vg2 : Int32) (x0 : Int32) : jR l yX2_handFrom wsX2_handFrom rX2_handFrom D [.ref a0, .int x0] (jC a0 aR aF aG cI vrow vdrawn vtr vled vmov vw1 vw2 veo veb vh1 vt1 vp1 vk1 vg1 vh2 vt2 vp2 vk2 vg2) [(cI, .int)] (.long (j_X2_handFrom vrow x0)) := by
  refine jR_of (cc := cX2_handFrom) (maxL := 5) (ret := (some .long)) (by decide) rfl (Nat.le_of_ble_eq_true rfl) ?_
  intro p e s m below meth c ls S hr hlocks hP hK hN hl
  obtain ⟨hx, hb, hml, hown, hts⟩ := id S
  have hl : lv_has ls 5 [(0, .ref a0), (1, .int x0)] := hl
  have loop5 : ∀ (n i : Nat) (y2 : Int64), i + n = 42 → j_X2_handFrom_5 vrow x0 n i y2 = (j_X2_handFrom vrow x0) → ∀ (ls : Array Slot), lv_has ls 5 [(4, .int (nI i)), (2, .long y2), (0, .ref a0), (1, .int x0)] → W p l e rX2_handFrom s m ([.ref a0, .int x0] : List Value).toArray below meth c s.heap [] 0 0 (MQ below (k2_QcV (.long (j_X2_handFrom vrow x0))) ([.ref a0, .int x0] : List Value).toArray s 0 0 (fun _ => False)) (F0 m 5 ls []) := by
    intro n
    induction n with
    | zero =>
      intro i y2 hin hv ls hl
      have hge : (42 : Int32) ≤ nI i := by rw [show i = 42 by omega]; decide
      have hgl : ¬ nI i < (42 : Int32) := by rw [show i = 42 by omega]; decide
      refine lv_iload hx hb dX2_handFrom_5 (lv_at hl 0 rfl) ?_
      refine lv_bipush (v := 42) hx hb dX2_handFrom_7 (by decide) ?_
      refine lv_icmp_ge (tgt := 46) hx hb dX2_handFrom_9 (by decide) (fun _ => ?_) (fun c_ => absurd hge c_)
      refine lv_lload_n hx hb dX2_handFrom_46 rfl (lv_at hl 1 rfl) ?_
      exact jr_lret hx hb hr hlocks dX2_handFrom_47 (by rw [← hv]; simp only [j_X2_handFrom_5, if_pos hge, if_neg hgl])
    | succ n ih =>
      intro i y2 hin hv ls hl
      have hge : ¬ (42 : Int32) ≤ nI i := nI_ge (a := i) (b := 42) (by omega) (by decide)
      have hgl : nI i < (42 : Int32) := nI_lt (a := i) (b := 42) (by omega) (by decide)
      refine lv_iload hx hb dX2_handFrom_5 (lv_at hl 0 rfl) ?_
      refine lv_bipush (v := 42) hx hb dX2_handFrom_7 (by decide) ?_
      refine lv_icmp_ge (tgt := 46) hx hb dX2_handFrom_9 (by decide) (fun c_ => absurd c_ hge) (fun _ => ?_)
      refine lv_iload hx hb dX2_handFrom_12 (lv_at hl 0 rfl) ?_
      refine lv_iload_n hx hb dX2_handFrom_14 rfl (lv_at hl 3 rfl) ?_
      refine lv_icmp_lt (tgt := 40) hx hb dX2_handFrom_15 (by decide) (fun c_5001 => ?_) (fun c_5001 => ?_)
      · skip
        refine lv_iinc (v := nI (i + 1)) (lv' := [(4, .int (nI (i + 1))), (2, .long y2), (0, .ref a0), (1, .int x0)]) hx hb dX2_handFrom_40 hl (k := 0) rfl (nI_1 i) (by decide) rfl (fun ls hl => ?_)
        refine lv_goto (tgt := 5) hx hb dX2_handFrom_43 (by decide) ?_
        exact ih (i + 1) y2 (by omega) (by rw [← hv]; simp only [j_X2_handFrom_5, if_neg hge, if_pos hgl, if_pos c_5001]) ls (lv_sub hl [0, 1, 2, 3] rfl)
      · skip
        refine lv_iload hx hb dX2_handFrom_18 (lv_at hl 0 rfl) ?_
        refine lv_iload_n hx hb dX2_handFrom_20 rfl (lv_at hl 3 rfl) ?_
        refine lv_bipush (v := 6) hx hb dX2_handFrom_21 (by decide) ?_
        refine lv_iadd hx hb dX2_handFrom_23 ?_
        refine lv_icmp_ge (tgt := 40) hx hb dX2_handFrom_24 (by decide) (fun c_5002 => ?_) (fun c_5002 => ?_)
        · skip
          refine lv_iinc (v := nI (i + 1)) (lv' := [(4, .int (nI (i + 1))), (2, .long y2), (0, .ref a0), (1, .int x0)]) hx hb dX2_handFrom_40 hl (k := 0) rfl (nI_1 i) (by decide) rfl (fun ls hl => ?_)
          refine lv_goto (tgt := 5) hx hb dX2_handFrom_43 (by decide) ?_
          exact ih (i + 1) y2 (by omega) (by rw [← hv]; simp only [j_X2_handFrom_5, if_neg hge, if_pos hgl, if_neg c_5001, if_pos c_5002]) ls (lv_sub hl [0, 1, 2, 3] rfl)
        · skip
          refine lv_lload_n hx hb dX2_handFrom_27 rfl (lv_at hl 1 rfl) ?_
          refine lv_aload_n hx hb dX2_handFrom_28 rfl (lv_at hl 2 rfl) ?_
          refine va_get (D := D) (ci := 2) (v := .ref aR) (C := RX2) (T := TX2) (N := 11) hx hb hts inX2_handFrom_X2 hown hK hP 0 rfl rfl 0 (by decide) (hts (.fieldLink RX2 9 "ArchivistTricks" "row" "[I") (by decide +kernel)) (fun _ h9 => h9) rfl dX2_handFrom_29 ?_
          refine lv_iload hx hb dX2_handFrom_32 (lv_at hl 0 rfl) ?_
          refine va_iald hx hb hK hP 3 0 rfl rfl (i := nI i) (vp_in_nI (by omega) (by decide)) dX2_handFrom_34 ?_
          refine jr_callS (n := 1) (As := [.int (vrow (nI i).toNatClampNeg)]) (rest := [.long y2]) S (c_X2_bit (vrow (nI i).toNatClampNeg)) gX2_handFrom_X2_bit rfl (by decide +kernel) rfl ⟨⟨rfl, rfl⟩, ⟨Nat.le_of_ble_eq_true rfl, Nat.le_of_ble_eq_true rfl⟩, Nat.le_of_ble_eq_true rfl, Nat.le_of_ble_eq_true rfl⟩ hP hK hN [] [] rfl rfl (lv_nil hl) rfl (Nat.le_of_ble_eq_true rfl) dX2_handFrom_35 ?_
          refine lv_lor hx hb dX2_handFrom_38 ?_
          refine lv_lstore_n (lv' := [(2, .long (y2 ||| (j_X2_bit (vrow (nI i).toNatClampNeg)))), (4, .int (nI i)), (0, .ref a0), (1, .int x0)]) hx hb dX2_handFrom_39 rfl hl (by decide) rfl (fun ls hl => ?_)
          refine lv_iinc (v := nI (i + 1)) (lv' := [(4, .int (nI (i + 1))), (2, .long (y2 ||| (j_X2_bit (vrow (nI i).toNatClampNeg)))), (0, .ref a0), (1, .int x0)]) hx hb dX2_handFrom_40 hl (k := 1) rfl (nI_1 i) (by decide) rfl (fun ls hl => ?_)
          refine lv_goto (tgt := 5) hx hb dX2_handFrom_43 (by decide) ?_
          exact ih (i + 1) (y2 ||| (j_X2_bit (vrow (nI i).toNatClampNeg))) (by omega) (by rw [← hv]; simp only [j_X2_handFrom_5, if_neg hge, if_pos hgl, if_neg c_5001, if_neg c_5002]) ls (lv_sub hl [0, 1, 2, 3] rfl)
  refine lv_lconst (v := 0) hx hb dX2_handFrom_0 (by decide) ?_
  refine lv_lstore_n (lv' := [(2, .long 0), (0, .ref a0), (1, .int x0)]) hx hb dX2_handFrom_1 rfl hl (by decide) rfl (fun ls hl => ?_)
  refine lv_iconst (v := 0) hx hb dX2_handFrom_2 (by decide) ?_
  refine lv_istore (lv' := [(4, .int 0), (2, .long 0), (0, .ref a0), (1, .int x0)]) hx hb dX2_handFrom_3 hl (by decide) rfl (fun ls hl => ?_)
  exact loop5 42 0 0 rfl (by simp only [j_X2_handFrom]) ls (lv_sub (l' := [(4, .int (nI 0)), (2, .long 0), (0, .ref a0), (1, .int x0)]) hl [0, 1, 2, 3] rfl)

