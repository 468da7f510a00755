/-! THE CLASS: its throws (laid by wip/whole/rows.py) -/
theorem jx_nm1 {i : Nat} (hi : i < 2 ^ 31) : ¬ nI i = -1 := by
  intro h
  have h1 := congrArg Int32.toInt h
  rw [nI_toInt hi] at h1
  have h2 : ((-1 : Int32)).toInt = -1 := by decide
  rw [h2] at h1
  omega

abbrev rX2_play_x1 : Room := { frames := 6, cells := 1, slots := 6, locals := 90 }
set_option maxRecDepth 100000 in
set_option maxHeartbeats 8000000 in
theorem t_X2_play_x1 {l : Launch} (hst9 : l.stackTraces = false) {D : va_G} (a0 : Nat) (aR : Nat) (aF : Nat) (aG : Nat) (cI : ClassId) (vrow : Nat → Int32) (vdrawn : Int32) (vtr : Int32) (vled : Int32) (vmov : Int32) (vw1 : Int32) (vw2 : Int32) (veo : Option Nat) (veb : Int32) (vh1 : Int64) (vt1 : Int64) (vp1 : Int32) (vk1 : Int32) (vg1 : Int32) (vh2 : Int64) (vt2 : Int64) (vp2 : Int32) (vk2 : Int32) (vg2 : Int32) (x0 : Int32) (h0 : j_X2_isCard x0 = 0) : jTh l yX2_play wsX2_play rX2_play_x1 D [.ref a0, .int x0] (jC a0 aR aF aG cI vrow vdrawn vtr vled vmov vw1 vw2 veo veb vh1 vt1 vp1 vk1 vg1 vh2 vt2 vp2 vk2 vg2) [(cI, .int)] "java/lang/IllegalArgumentException" := by
  refine jTh_of (cc := cX2_play) (maxL := 3) (ret := (some .int)) (by decide) rfl (Nat.le_of_ble_eq_true rfl) ?_
  intro p e s m below meth c ls A S hlocks hnx hP hK hN hD hA hX hl
  obtain ⟨hx, hb, hml, hown, hts⟩ := id S
  have hl : lv_has ls 3 [(0, .ref a0), (1, .int x0)] := hl
  refine lv_iload_n hx hb dX2_play_0 rfl (lv_at hl 1 rfl) ?_
  refine jr_callS (n := 1) (As := [.int x0]) (rest := []) S (c_X2_isCard x0) gX2_play_X2_isCard rfl (by decide +kernel) rfl ⟨⟨rfl, rfl⟩, ⟨Nat.le_of_ble_eq_true rfl, Nat.le_of_ble_eq_true rfl⟩, Nat.le_of_ble_eq_true rfl, Nat.le_of_ble_eq_true rfl⟩ hP hK hN [] [] rfl rfl (lv_nil hl) rfl (Nat.le_of_ble_eq_true rfl) dX2_play_1 ?_
  refine lv_if_ne (tgt := 17) hx hb dX2_play_4 (by decide) (fun c_ => absurd h0 c_) (fun _ => ?_)
  exact jt_throw (E := "java/lang/IllegalArgumentException") (text := "there is no such card") (ik := 71) (is := 73) (ic := 75) (rest := []) hst9 S hlocks hnx hP hK hD hX hl.1 (by decide) (by decide) (by decide +kernel) (by decide +kernel) (by decide +kernel) (by decide +kernel) (by decide +kernel) (by decide +kernel) dX2_play_7 dX2_play_10 dX2_play_11 dX2_play_13 dX2_play_16 ⟨by decide, by decide, by decide, by decide⟩

abbrev rX2_play_x2 : Room := { frames := 6, cells := 1, slots := 6, locals := 90 }
set_option maxRecDepth 100000 in
set_option maxHeartbeats 8000000 in
theorem t_X2_play_x2 {l : Launch} (hst9 : l.stackTraces = false) {D : va_G} (a0 : Nat) (aR : Nat) (aF : Nat) (aG : Nat) (cI : ClassId) (vrow : Nat → Int32) (vdrawn : Int32) (vtr : Int32) (vled : Int32) (vmov : Int32) (vw1 : Int32) (vw2 : Int32) (veo : Option Nat) (veb : Int32) (vh1 : Int64) (vt1 : Int64) (vp1 : Int32) (vk1 : Int32) (vg1 : Int32) (vh2 : Int64) (vt2 : Int64) (vp2 : Int32) (vk2 : Int32) (vg2 : Int32) (x0 : Int32) (h0 : ¬ (j_X2_isCard x0 = 0)) (h1 : ¬ (j_X2_reasonAgainst vdrawn vtr vled vmov vh1 vh2 x0 = 0)) : jTh l yX2_play wsX2_play rX2_play_x2 D [.ref a0, .int x0] (jC a0 aR aF aG cI vrow vdrawn vtr vled vmov vw1 vw2 veo veb vh1 vt1 vp1 vk1 vg1 vh2 vt2 vp2 vk2 vg2) [(cI, .int)] "java/lang/IllegalStateException" := by
  refine jTh_of (cc := cX2_play) (maxL := 3) (ret := (some .int)) (by decide) rfl (Nat.le_of_ble_eq_true rfl) ?_
  intro p e s m below meth c ls A S hlocks hnx hP hK hN hD hA hX hl
  obtain ⟨hx, hb, hml, hown, hts⟩ := id S
  have hl : lv_has ls 3 [(0, .ref a0), (1, .int x0)] := hl
  refine lv_iload_n hx hb dX2_play_0 rfl (lv_at hl 1 rfl) ?_
  refine jr_callS (n := 1) (As := [.int x0]) (rest := []) S (c_X2_isCard x0) gX2_play_X2_isCard rfl (by decide +kernel) rfl ⟨⟨rfl, rfl⟩, ⟨Nat.le_of_ble_eq_true rfl, Nat.le_of_ble_eq_true rfl⟩, Nat.le_of_ble_eq_true rfl, Nat.le_of_ble_eq_true rfl⟩ hP hK hN [] [] rfl rfl (lv_nil hl) rfl (Nat.le_of_ble_eq_true rfl) dX2_play_1 ?_
  refine lv_if_ne (tgt := 17) hx hb dX2_play_4 (by decide) (fun _ => ?_) (fun c_ => absurd c_ h0)
  refine lv_aload_n hx hb dX2_play_17 rfl (lv_at hl 0 rfl) ?_
  refine lv_iload_n hx hb dX2_play_18 rfl (lv_at hl 1 rfl) ?_
  refine jr_callV (n := 1) (C := RX2) (As := [.int x0]) (rest := []) S (c_X2_reasonAgainst a0 aR aF aG cI vrow vdrawn vtr vled vmov vw1 vw2 veo veb vh1 vt1 vp1 vk1 vg1 vh2 vt2 vp2 vk2 vg2 x0) gX2_play_X2_reasonAgainst rfl (by decide +kernel) rfl ⟨⟨rfl, rfl⟩, ⟨Nat.le_of_ble_eq_true rfl, Nat.le_of_ble_eq_true rfl⟩, Nat.le_of_ble_eq_true rfl, Nat.le_of_ble_eq_true rfl⟩ hP hK hN [0, 1, 2, 3] [0] rfl rfl 0 2 rfl rfl rfl (lv_nil hl) rfl (Nat.le_of_ble_eq_true rfl) dX2_play_19 ?_
  refine lv_if_eq (tgt := 35) hx hb dX2_play_22 (by decide) (fun c_ => absurd c_ h1) (fun _ => ?_)
  exact jt_throw (E := "java/lang/IllegalStateException") (text := "the card cannot be played now") (ik := 82) (is := 84) (ic := 86) (rest := []) hst9 S hlocks hnx hP hK hD hX hl.1 (by decide) (by decide) (by decide +kernel) (by decide +kernel) (by decide +kernel) (by decide +kernel) (by decide +kernel) (by decide +kernel) dX2_play_25 dX2_play_28 dX2_play_29 dX2_play_31 dX2_play_34 ⟨by decide, by decide, by decide, by decide⟩

abbrev rX2_putOnGloves_x1 : Room := { frames := 6, cells := 1, slots := 6, locals := 90 }
theorem inX2_putOnGloves_x1_X2 : ∀ w ∈ u_ws RX2 TX2 11, w ∈ wsX2_putOnGloves := by decide +kernel
set_option maxRecDepth 100000 in
set_option maxHeartbeats 8000000 in
theorem t_X2_putOnGloves_x1 {l : Launch} (hst9 : l.stackTraces = false) {D : va_G} (a0 : Nat) (aR : Nat) (aF : Nat) (aG : Nat) (cI : ClassId) (vrow : Nat → Int32) (vdrawn : Int32) (vtr : Int32) (vled : Int32) (vmov : Int32) (vw1 : Int32) (vw2 : Int32) (veo : Option Nat) (veb : Int32) (vh1 : Int64) (vt1 : Int64) (vp1 : Int32) (vk1 : Int32) (vg1 : Int32) (vh2 : Int64) (vt2 : Int64) (vp2 : Int32) (vk2 : Int32) (vg2 : Int32) (h0 : vmov = (-1)) : jTh l yX2_putOnGloves wsX2_putOnGloves rX2_putOnGloves_x1 D [.ref a0] (jC a0 aR aF aG cI vrow vdrawn vtr vled vmov vw1 vw2 veo veb vh1 vt1 vp1 vk1 vg1 vh2 vt2 vp2 vk2 vg2) [(cI, .int)] "java/lang/IllegalStateException" := by
  refine jTh_of (cc := cX2_putOnGloves) (maxL := 2) (ret := (some .int)) (by decide) rfl (Nat.le_of_ble_eq_true rfl) ?_
  intro p e s m below meth c ls A S hlocks hnx hP hK hN hD hA hX hl
  obtain ⟨hx, hb, hml, hown, hts⟩ := id S
  have hl : lv_has ls 2 [(0, .ref a0)] := hl
  refine lv_aload_n hx hb dX2_putOnGloves_0 rfl (lv_at hl 0 rfl) ?_
  refine va_get (D := D) (ci := 2) (v := .int vmov) (C := RX2) (T := TX2) (N := 11) hx hb hts inX2_putOnGloves_x1_X2 hown hK hP 0 rfl rfl 6 (by decide) (hts (.fieldLink RX2 33 "ArchivistTricks" "mover" "I") (by decide +kernel)) (fun _ h9 => h9) rfl dX2_putOnGloves_1 ?_
  refine lv_iconst (v := (-1)) hx hb dX2_putOnGloves_4 (by decide) ?_
  refine lv_icmp_ne (tgt := 18) hx hb dX2_putOnGloves_5 (by decide) (fun c_ => absurd h0 c_) (fun _ => ?_)
  exact jt_throw (E := "java/lang/IllegalStateException") (text := "there is no game, or it is over") (ik := 82) (is := 103) (ic := 86) (rest := []) hst9 S hlocks hnx hP hK hD hX hl.1 (by decide) (by decide) (by decide +kernel) (by decide +kernel) (by decide +kernel) (by decide +kernel) (by decide +kernel) (by decide +kernel) dX2_putOnGloves_8 dX2_putOnGloves_11 dX2_putOnGloves_12 dX2_putOnGloves_14 dX2_putOnGloves_17 ⟨by decide, by decide, by decide, by decide⟩

abbrev rX2_putOnGloves_x2F : Room := { frames := 6, cells := 1, slots := 6, locals := 90 }
theorem inX2_putOnGloves_x2F_X0 : ∀ w ∈ u_ws RX0 TX0 5, w ∈ wsX2_putOnGloves := by decide +kernel
theorem inX2_putOnGloves_x2F_X2 : ∀ w ∈ u_ws RX2 TX2 11, w ∈ wsX2_putOnGloves := by decide +kernel
set_option maxRecDepth 100000 in
set_option maxHeartbeats 8000000 in
theorem t_X2_putOnGloves_x2F {l : Launch} (hst9 : l.stackTraces = false) {D : va_G} (a0 : Nat) (aR : Nat) (aF : Nat) (aG : Nat) (cI : ClassId) (vrow : Nat → Int32) (vdrawn : Int32) (vtr : Int32) (vled : Int32) (vmov : Int32) (vw1 : Int32) (vw2 : Int32) (veo : Option Nat) (veb : Int32) (vh1 : Int64) (vt1 : Int64) (vp1 : Int32) (vk1 : Int32) (vg1 : Int32) (vh2 : Int64) (vt2 : Int64) (vp2 : Int32) (vk2 : Int32) (vg2 : Int32) (h0 : ¬ (vmov = (-1))) (h1 : vmov = 0) (h2 : ¬ (vg1 = 0)) : jTh l yX2_putOnGloves wsX2_putOnGloves rX2_putOnGloves_x2F D [.ref a0] (jC a0 aR aF aG cI vrow vdrawn vtr vled vmov vw1 vw2 veo veb vh1 vt1 vp1 vk1 vg1 vh2 vt2 vp2 vk2 vg2) [(cI, .int)] "java/lang/IllegalStateException" := by
  refine jTh_of (cc := cX2_putOnGloves) (maxL := 2) (ret := (some .int)) (by decide) rfl (Nat.le_of_ble_eq_true rfl) ?_
  intro p e s m below meth c ls A S hlocks hnx hP hK hN hD hA hX hl
  obtain ⟨hx, hb, hml, hown, hts⟩ := id S
  have hl : lv_has ls 2 [(0, .ref a0)] := hl
  refine lv_aload_n hx hb dX2_putOnGloves_0 rfl (lv_at hl 0 rfl) ?_
  refine va_get (D := D) (ci := 2) (v := .int vmov) (C := RX2) (T := TX2) (N := 11) hx hb hts inX2_putOnGloves_x2F_X2 hown hK hP 0 rfl rfl 6 (by decide) (hts (.fieldLink RX2 33 "ArchivistTricks" "mover" "I") (by decide +kernel)) (fun _ h9 => h9) rfl dX2_putOnGloves_1 ?_
  refine lv_iconst (v := (-1)) hx hb dX2_putOnGloves_4 (by decide) ?_
  refine lv_icmp_ne (tgt := 18) hx hb dX2_putOnGloves_5 (by decide) (fun _ => ?_) (fun c_ => absurd c_ h0)
  refine lv_aload_n hx hb dX2_putOnGloves_18 rfl (lv_at hl 0 rfl) ?_
  refine lv_aload_n hx hb dX2_putOnGloves_19 rfl (lv_at hl 0 rfl) ?_
  refine va_get (D := D) (ci := 2) (v := .int vmov) (C := RX2) (T := TX2) (N := 11) hx hb hts inX2_putOnGloves_x2F_X2 hown hK hP 0 rfl rfl 6 (by decide) (hts (.fieldLink RX2 33 "ArchivistTricks" "mover" "I") (by decide +kernel)) (fun _ h9 => h9) rfl dX2_putOnGloves_20 ?_
  refine jr_callV (n := 1) (C := RX2) (As := [.int vmov]) (rest := []) S (c_X2_archivist a0 aR aF aG cI vrow vdrawn vtr vled vmov vw1 vw2 veo veb vh1 vt1 vp1 vk1 vg1 vh2 vt2 vp2 vk2 vg2 vmov) gX2_putOnGloves_X2_archivist rfl (by decide +kernel) rfl ⟨⟨rfl, rfl⟩, ⟨Nat.le_of_ble_eq_true rfl, Nat.le_of_ble_eq_true rfl⟩, Nat.le_of_ble_eq_true rfl, Nat.le_of_ble_eq_true rfl⟩ hP hK hN [0, 1, 2, 3] [0] rfl rfl 0 2 rfl rfl rfl (lv_nil hl) rfl (Nat.le_of_ble_eq_true rfl) dX2_putOnGloves_23 ?_
  refine jr_iteT (c0 := vmov = 0) (a := aF) (b := aG) h1 rfl ?_
  refine lv_astore_n (lv' := [(1, .ref aF), (0, .ref a0)]) hx hb dX2_putOnGloves_26 rfl hl (by decide) rfl (fun ls hl => ?_)
  refine lv_aload_n hx hb dX2_putOnGloves_27 rfl (lv_at hl 0 rfl) ?_
  refine va_get (D := D) (ci := 0) (v := .int vg1) (C := RX0) (T := TX0) (N := 5) hx hb hts inX2_putOnGloves_x2F_X0 hown hK hP 1 rfl rfl 4 (by decide) (hts (.fieldLink RX2 105 "ArchivistTricks$Archivist" "gloves" "I") (by decide +kernel)) (fun _ h9 => h9) rfl dX2_putOnGloves_28 ?_
  refine lv_if_eq (tgt := 44) hx hb dX2_putOnGloves_31 (by decide) (fun c_ => absurd c_ h2) (fun _ => ?_)
  exact jt_throw (E := "java/lang/IllegalStateException") (text := "the gloves are on, or gone") (ik := 82) (is := 108) (ic := 86) (rest := []) hst9 S hlocks hnx hP hK hD hX hl.1 (by decide) (by decide) (by decide +kernel) (by decide +kernel) (by decide +kernel) (by decide +kernel) (by decide +kernel) (by decide +kernel) dX2_putOnGloves_34 dX2_putOnGloves_37 dX2_putOnGloves_38 dX2_putOnGloves_40 dX2_putOnGloves_43 ⟨by decide, by decide, by decide, by decide⟩

abbrev rX2_putOnGloves_x2G : Room := { frames := 6, cells := 1, slots := 6, locals := 90 }
theorem inX2_putOnGloves_x2G_X0 : ∀ w ∈ u_ws RX0 TX0 5, w ∈ wsX2_putOnGloves := by decide +kernel
theorem inX2_putOnGloves_x2G_X2 : ∀ w ∈ u_ws RX2 TX2 11, w ∈ wsX2_putOnGloves := by decide +kernel
set_option maxRecDepth 100000 in
set_option maxHeartbeats 8000000 in
theorem t_X2_putOnGloves_x2G {l : Launch} (hst9 : l.stackTraces = false) {D : va_G} (a0 : Nat) (aR : Nat) (aF : Nat) (aG : Nat) (cI : ClassId) (vrow : Nat → Int32) (vdrawn : Int32) (vtr : Int32) (vled : Int32) (vmov : Int32) (vw1 : Int32) (vw2 : Int32) (veo : Option Nat) (veb : Int32) (vh1 : Int64) (vt1 : Int64) (vp1 : Int32) (vk1 : Int32) (vg1 : Int32) (vh2 : Int64) (vt2 : Int64) (vp2 : Int32) (vk2 : Int32) (vg2 : Int32) (h0 : ¬ (vmov = (-1))) (h1 : ¬ (vmov = 0)) (h2 : ¬ (vg2 = 0)) : jTh l yX2_putOnGloves wsX2_putOnGloves rX2_putOnGloves_x2G D [.ref a0] (jC a0 aR aF aG cI vrow vdrawn vtr vled vmov vw1 vw2 veo veb vh1 vt1 vp1 vk1 vg1 vh2 vt2 vp2 vk2 vg2) [(cI, .int)] "java/lang/IllegalStateException" := by
  refine jTh_of (cc := cX2_putOnGloves) (maxL := 2) (ret := (some .int)) (by decide) rfl (Nat.le_of_ble_eq_true rfl) ?_
  intro p e s m below meth c ls A S hlocks hnx hP hK hN hD hA hX hl
  obtain ⟨hx, hb, hml, hown, hts⟩ := id S
  have hl : lv_has ls 2 [(0, .ref a0)] := hl
  refine lv_aload_n hx hb dX2_putOnGloves_0 rfl (lv_at hl 0 rfl) ?_
  refine va_get (D := D) (ci := 2) (v := .int vmov) (C := RX2) (T := TX2) (N := 11) hx hb hts inX2_putOnGloves_x2G_X2 hown hK hP 0 rfl rfl 6 (by decide) (hts (.fieldLink RX2 33 "ArchivistTricks" "mover" "I") (by decide +kernel)) (fun _ h9 => h9) rfl dX2_putOnGloves_1 ?_
  refine lv_iconst (v := (-1)) hx hb dX2_putOnGloves_4 (by decide) ?_
  refine lv_icmp_ne (tgt := 18) hx hb dX2_putOnGloves_5 (by decide) (fun _ => ?_) (fun c_ => absurd c_ h0)
  refine lv_aload_n hx hb dX2_putOnGloves_18 rfl (lv_at hl 0 rfl) ?_
  refine lv_aload_n hx hb dX2_putOnGloves_19 rfl (lv_at hl 0 rfl) ?_
  refine va_get (D := D) (ci := 2) (v := .int vmov) (C := RX2) (T := TX2) (N := 11) hx hb hts inX2_putOnGloves_x2G_X2 hown hK hP 0 rfl rfl 6 (by decide) (hts (.fieldLink RX2 33 "ArchivistTricks" "mover" "I") (by decide +kernel)) (fun _ h9 => h9) rfl dX2_putOnGloves_20 ?_
  refine jr_callV (n := 1) (C := RX2) (As := [.int vmov]) (rest := []) S (c_X2_archivist a0 aR aF aG cI vrow vdrawn vtr vled vmov vw1 vw2 veo veb vh1 vt1 vp1 vk1 vg1 vh2 vt2 vp2 vk2 vg2 vmov) gX2_putOnGloves_X2_archivist rfl (by decide +kernel) rfl ⟨⟨rfl, rfl⟩, ⟨Nat.le_of_ble_eq_true rfl, Nat.le_of_ble_eq_true rfl⟩, Nat.le_of_ble_eq_true rfl, Nat.le_of_ble_eq_true rfl⟩ hP hK hN [0, 1, 2, 3] [0] rfl rfl 0 2 rfl rfl rfl (lv_nil hl) rfl (Nat.le_of_ble_eq_true rfl) dX2_putOnGloves_23 ?_
  refine jr_iteF (c0 := vmov = 0) (a := aF) (b := aG) h1 rfl ?_
  refine lv_astore_n (lv' := [(1, .ref aG), (0, .ref a0)]) hx hb dX2_putOnGloves_26 rfl hl (by decide) rfl (fun ls hl => ?_)
  refine lv_aload_n hx hb dX2_putOnGloves_27 rfl (lv_at hl 0 rfl) ?_
  refine va_get (D := D) (ci := 0) (v := .int vg2) (C := RX0) (T := TX0) (N := 5) hx hb hts inX2_putOnGloves_x2G_X0 hown hK hP 2 rfl rfl 4 (by decide) (hts (.fieldLink RX2 105 "ArchivistTricks$Archivist" "gloves" "I") (by decide +kernel)) (fun _ h9 => h9) rfl dX2_putOnGloves_28 ?_
  refine lv_if_eq (tgt := 44) hx hb dX2_putOnGloves_31 (by decide) (fun c_ => absurd c_ h2) (fun _ => ?_)
  exact jt_throw (E := "java/lang/IllegalStateException") (text := "the gloves are on, or gone") (ik := 82) (is := 108) (ic := 86) (rest := []) hst9 S hlocks hnx hP hK hD hX hl.1 (by decide) (by decide) (by decide +kernel) (by decide +kernel) (by decide +kernel) (by decide +kernel) (by decide +kernel) (by decide +kernel) dX2_putOnGloves_34 dX2_putOnGloves_37 dX2_putOnGloves_38 dX2_putOnGloves_40 dX2_putOnGloves_43 ⟨by decide, by decide, by decide, by decide⟩

abbrev rX2_whyNot_x1 : Room := { frames := 6, cells := 1, slots := 6, locals := 90 }
set_option maxRecDepth 100000 in
set_option maxHeartbeats 8000000 in
theorem t_X2_whyNot_x1 {l : Launch} (hst9 : l.stackTraces = false) {D : va_G} (a0 : Nat) (aR : Nat) (aF : Nat) (aG : Nat) (cI : ClassId) (vrow : Nat → Int32) (vdrawn : Int32) (vtr : Int32) (vled : Int32) (vmov : Int32) (vw1 : Int32) (vw2 : Int32) (veo : Option Nat) (veb : Int32) (vh1 : Int64) (vt1 : Int64) (vp1 : Int32) (vk1 : Int32) (vg1 : Int32) (vh2 : Int64) (vt2 : Int64) (vp2 : Int32) (vk2 : Int32) (vg2 : Int32) (x0 : Int32) (h0 : j_X2_isCard x0 = 0) : jTh l yX2_whyNot wsX2_whyNot rX2_whyNot_x1 D [.ref a0, .int x0] (jC a0 aR aF aG cI vrow vdrawn vtr vled vmov vw1 vw2 veo veb vh1 vt1 vp1 vk1 vg1 vh2 vt2 vp2 vk2 vg2) [(cI, .int)] "java/lang/IllegalArgumentException" := by
  refine jTh_of (cc := cX2_whyNot) (maxL := 2) (ret := (some .int)) (by decide) rfl (Nat.le_of_ble_eq_true rfl) ?_
  intro p e s m below meth c ls A S hlocks hnx hP hK hN hD hA hX hl
  obtain ⟨hx, hb, hml, hown, hts⟩ := id S
  have hl : lv_has ls 2 [(0, .ref a0), (1, .int x0)] := hl
  refine lv_iload_n hx hb dX2_whyNot_0 rfl (lv_at hl 1 rfl) ?_
  refine jr_callS (n := 1) (As := [.int x0]) (rest := []) S (c_X2_isCard x0) gX2_whyNot_X2_isCard rfl (by decide +kernel) rfl ⟨⟨rfl, rfl⟩, ⟨Nat.le_of_ble_eq_true rfl, Nat.le_of_ble_eq_true rfl⟩, Nat.le_of_ble_eq_true rfl, Nat.le_of_ble_eq_true rfl⟩ hP hK hN [] [] rfl rfl (lv_nil hl) rfl (Nat.le_of_ble_eq_true rfl) dX2_whyNot_1 ?_
  refine lv_if_ne (tgt := 17) hx hb dX2_whyNot_4 (by decide) (fun c_ => absurd h0 c_) (fun _ => ?_)
  exact jt_throw (E := "java/lang/IllegalArgumentException") (text := "there is no such card") (ik := 71) (is := 73) (ic := 75) (rest := []) hst9 S hlocks hnx hP hK hD hX hl.1 (by decide) (by decide) (by decide +kernel) (by decide +kernel) (by decide +kernel) (by decide +kernel) (by decide +kernel) (by decide +kernel) dX2_whyNot_7 dX2_whyNot_10 dX2_whyNot_11 dX2_whyNot_13 dX2_whyNot_16 ⟨by decide, by decide, by decide, by decide⟩

abbrev rX2_cards_x1 : Room := { frames := 6, cells := 1, slots := 6, locals := 90 }
set_option maxRecDepth 100000 in
set_option maxHeartbeats 8000000 in
theorem t_X2_cards_x1 {l : Launch} (hst9 : l.stackTraces = false) {D : va_G} (a0 : Nat) (aR : Nat) (aF : Nat) (aG : Nat) (cI : ClassId) (vrow : Nat → Int32) (vdrawn : Int32) (vtr : Int32) (vled : Int32) (vmov : Int32) (vw1 : Int32) (vw2 : Int32) (veo : Option Nat) (veb : Int32) (vh1 : Int64) (vt1 : Int64) (vp1 : Int32) (vk1 : Int32) (vg1 : Int32) (vh2 : Int64) (vt2 : Int64) (vp2 : Int32) (vk2 : Int32) (vg2 : Int32) (x0 : Int32) (h0 : j_X2_isArchivist x0 = 0) : jTh l yX2_cards wsX2_cards rX2_cards_x1 D [.ref a0, .int x0] (jC a0 aR aF aG cI vrow vdrawn vtr vled vmov vw1 vw2 veo veb vh1 vt1 vp1 vk1 vg1 vh2 vt2 vp2 vk2 vg2) [(cI, .int)] "java/lang/IndexOutOfBoundsException" := by
  refine jTh_of (cc := cX2_cards) (maxL := 2) (ret := (some .int)) (by decide) rfl (Nat.le_of_ble_eq_true rfl) ?_
  intro p e s m below meth c ls A S hlocks hnx hP hK hN hD hA hX hl
  obtain ⟨hx, hb, hml, hown, hts⟩ := id S
  have hl : lv_has ls 2 [(0, .ref a0), (1, .int x0)] := hl
  refine lv_iload_n hx hb dX2_cards_0 rfl (lv_at hl 1 rfl) ?_
  refine jr_callS (n := 1) (As := [.int x0]) (rest := []) S (c_X2_isArchivist x0) gX2_cards_X2_isArchivist rfl (by decide +kernel) rfl ⟨⟨rfl, rfl⟩, ⟨Nat.le_of_ble_eq_true rfl, Nat.le_of_ble_eq_true rfl⟩, Nat.le_of_ble_eq_true rfl, Nat.le_of_ble_eq_true rfl⟩ hP hK hN [] [] rfl rfl (lv_nil hl) rfl (Nat.le_of_ble_eq_true rfl) dX2_cards_1 ?_
  refine lv_if_ne (tgt := 17) hx hb dX2_cards_4 (by decide) (fun c_ => absurd h0 c_) (fun _ => ?_)
  exact jt_throw (E := "java/lang/IndexOutOfBoundsException") (text := "there is no such archivist") (ik := 113) (is := 115) (ic := 117) (rest := []) hst9 S hlocks hnx hP hK hD hX hl.1 (by decide) (by decide) (by decide +kernel) (by decide +kernel) (by decide +kernel) (by decide +kernel) (by decide +kernel) (by decide +kernel) dX2_cards_7 dX2_cards_10 dX2_cards_11 dX2_cards_13 dX2_cards_16 ⟨by decide, by decide, by decide, by decide⟩

abbrev rX2_placeOf_x1 : Room := { frames := 6, cells := 1, slots := 6, locals := 90 }
set_option maxRecDepth 100000 in
set_option maxHeartbeats 8000000 in
theorem t_X2_placeOf_x1 {l : Launch} (hst9 : l.stackTraces = false) {D : va_G} (a0 : Nat) (aR : Nat) (aF : Nat) (aG : Nat) (cI : ClassId) (vrow : Nat → Int32) (vdrawn : Int32) (vtr : Int32) (vled : Int32) (vmov : Int32) (vw1 : Int32) (vw2 : Int32) (veo : Option Nat) (veb : Int32) (vh1 : Int64) (vt1 : Int64) (vp1 : Int32) (vk1 : Int32) (vg1 : Int32) (vh2 : Int64) (vt2 : Int64) (vp2 : Int32) (vk2 : Int32) (vg2 : Int32) (x0 : Int32) (h0 : j_X2_isCard x0 = 0) : jTh l yX2_placeOf wsX2_placeOf rX2_placeOf_x1 D [.ref a0, .int x0] (jC a0 aR aF aG cI vrow vdrawn vtr vled vmov vw1 vw2 veo veb vh1 vt1 vp1 vk1 vg1 vh2 vt2 vp2 vk2 vg2) [(cI, .int)] "java/lang/IllegalArgumentException" := by
  refine jTh_of (cc := cX2_placeOf) (maxL := 2) (ret := (some .int)) (by decide) rfl (Nat.le_of_ble_eq_true rfl) ?_
  intro p e s m below meth c ls A S hlocks hnx hP hK hN hD hA hX hl
  obtain ⟨hx, hb, hml, hown, hts⟩ := id S
  have hl : lv_has ls 2 [(0, .ref a0), (1, .int x0)] := hl
  refine lv_iload_n hx hb dX2_placeOf_0 rfl (lv_at hl 1 rfl) ?_
  refine jr_callS (n := 1) (As := [.int x0]) (rest := []) S (c_X2_isCard x0) gX2_placeOf_X2_isCard rfl (by decide +kernel) rfl ⟨⟨rfl, rfl⟩, ⟨Nat.le_of_ble_eq_true rfl, Nat.le_of_ble_eq_true rfl⟩, Nat.le_of_ble_eq_true rfl, Nat.le_of_ble_eq_true rfl⟩ hP hK hN [] [] rfl rfl (lv_nil hl) rfl (Nat.le_of_ble_eq_true rfl) dX2_placeOf_1 ?_
  refine lv_if_ne (tgt := 17) hx hb dX2_placeOf_4 (by decide) (fun c_ => absurd h0 c_) (fun _ => ?_)
  exact jt_throw (E := "java/lang/IllegalArgumentException") (text := "there is no such card") (ik := 71) (is := 73) (ic := 75) (rest := []) hst9 S hlocks hnx hP hK hD hX hl.1 (by decide) (by decide) (by decide +kernel) (by decide +kernel) (by decide +kernel) (by decide +kernel) (by decide +kernel) (by decide +kernel) dX2_placeOf_7 dX2_placeOf_10 dX2_placeOf_11 dX2_placeOf_13 dX2_placeOf_16 ⟨by decide, by decide, by decide, by decide⟩

abbrev rX2_points_x1 : Room := { frames := 6, cells := 1, slots := 6, locals := 90 }
set_option maxRecDepth 100000 in
set_option maxHeartbeats 8000000 in
theorem t_X2_points_x1 {l : Launch} (hst9 : l.stackTraces = false) {D : va_G} (a0 : Nat) (aR : Nat) (aF : Nat) (aG : Nat) (cI : ClassId) (vrow : Nat → Int32) (vdrawn : Int32) (vtr : Int32) (vled : Int32) (vmov : Int32) (vw1 : Int32) (vw2 : Int32) (veo : Option Nat) (veb : Int32) (vh1 : Int64) (vt1 : Int64) (vp1 : Int32) (vk1 : Int32) (vg1 : Int32) (vh2 : Int64) (vt2 : Int64) (vp2 : Int32) (vk2 : Int32) (vg2 : Int32) (x0 : Int32) (h0 : j_X2_isArchivist x0 = 0) : jTh l yX2_points wsX2_points rX2_points_x1 D [.ref a0, .int x0] (jC a0 aR aF aG cI vrow vdrawn vtr vled vmov vw1 vw2 veo veb vh1 vt1 vp1 vk1 vg1 vh2 vt2 vp2 vk2 vg2) [(cI, .int)] "java/lang/IndexOutOfBoundsException" := by
  refine jTh_of (cc := cX2_points) (maxL := 2) (ret := (some .int)) (by decide) rfl (Nat.le_of_ble_eq_true rfl) ?_
  intro p e s m below meth c ls A S hlocks hnx hP hK hN hD hA hX hl
  obtain ⟨hx, hb, hml, hown, hts⟩ := id S
  have hl : lv_has ls 2 [(0, .ref a0), (1, .int x0)] := hl
  refine lv_iload_n hx hb dX2_points_0 rfl (lv_at hl 1 rfl) ?_
  refine jr_callS (n := 1) (As := [.int x0]) (rest := []) S (c_X2_isArchivist x0) gX2_points_X2_isArchivist rfl (by decide +kernel) rfl ⟨⟨rfl, rfl⟩, ⟨Nat.le_of_ble_eq_true rfl, Nat.le_of_ble_eq_true rfl⟩, Nat.le_of_ble_eq_true rfl, Nat.le_of_ble_eq_true rfl⟩ hP hK hN [] [] rfl rfl (lv_nil hl) rfl (Nat.le_of_ble_eq_true rfl) dX2_points_1 ?_
  refine lv_if_ne (tgt := 17) hx hb dX2_points_4 (by decide) (fun c_ => absurd h0 c_) (fun _ => ?_)
  exact jt_throw (E := "java/lang/IndexOutOfBoundsException") (text := "there is no such archivist") (ik := 113) (is := 115) (ic := 117) (rest := []) hst9 S hlocks hnx hP hK hD hX hl.1 (by decide) (by decide) (by decide +kernel) (by decide +kernel) (by decide +kernel) (by decide +kernel) (by decide +kernel) (by decide +kernel) dX2_points_7 dX2_points_10 dX2_points_11 dX2_points_13 dX2_points_16 ⟨by decide, by decide, by decide, by decide⟩

abbrev rX2_tricks_x1 : Room := { frames := 6, cells := 1, slots := 6, locals := 90 }
set_option maxRecDepth 100000 in
set_option maxHeartbeats 8000000 in
theorem t_X2_tricks_x1 {l : Launch} (hst9 : l.stackTraces = false) {D : va_G} (a0 : Nat) (aR : Nat) (aF : Nat) (aG : Nat) (cI : ClassId) (vrow : Nat → Int32) (vdrawn : Int32) (vtr : Int32) (vled : Int32) (vmov : Int32) (vw1 : Int32) (vw2 : Int32) (veo : Option Nat) (veb : Int32) (vh1 : Int64) (vt1 : Int64) (vp1 : Int32) (vk1 : Int32) (vg1 : Int32) (vh2 : Int64) (vt2 : Int64) (vp2 : Int32) (vk2 : Int32) (vg2 : Int32) (x0 : Int32) (h0 : j_X2_isArchivist x0 = 0) : jTh l yX2_tricks wsX2_tricks rX2_tricks_x1 D [.ref a0, .int x0] (jC a0 aR aF aG cI vrow vdrawn vtr vled vmov vw1 vw2 veo veb vh1 vt1 vp1 vk1 vg1 vh2 vt2 vp2 vk2 vg2) [(cI, .int)] "java/lang/IndexOutOfBoundsException" := by
  refine jTh_of (cc := cX2_tricks) (maxL := 2) (ret := (some .int)) (by decide) rfl (Nat.le_of_ble_eq_true rfl) ?_
  intro p e s m below meth c ls A S hlocks hnx hP hK hN hD hA hX hl
  obtain ⟨hx, hb, hml, hown, hts⟩ := id S
  have hl : lv_has ls 2 [(0, .ref a0), (1, .int x0)] := hl
  refine lv_iload_n hx hb dX2_tricks_0 rfl (lv_at hl 1 rfl) ?_
  refine jr_callS (n := 1) (As := [.int x0]) (rest := []) S (c_X2_isArchivist x0) gX2_tricks_X2_isArchivist rfl (by decide +kernel) rfl ⟨⟨rfl, rfl⟩, ⟨Nat.le_of_ble_eq_true rfl, Nat.le_of_ble_eq_true rfl⟩, Nat.le_of_ble_eq_true rfl, Nat.le_of_ble_eq_true rfl⟩ hP hK hN [] [] rfl rfl (lv_nil hl) rfl (Nat.le_of_ble_eq_true rfl) dX2_tricks_1 ?_
  refine lv_if_ne (tgt := 17) hx hb dX2_tricks_4 (by decide) (fun c_ => absurd h0 c_) (fun _ => ?_)
  exact jt_throw (E := "java/lang/IndexOutOfBoundsException") (text := "there is no such archivist") (ik := 113) (is := 115) (ic := 117) (rest := []) hst9 S hlocks hnx hP hK hD hX hl.1 (by decide) (by decide) (by decide +kernel) (by decide +kernel) (by decide +kernel) (by decide +kernel) (by decide +kernel) (by decide +kernel) dX2_tricks_7 dX2_tricks_10 dX2_tricks_11 dX2_tricks_13 dX2_tricks_16 ⟨by decide, by decide, by decide, by decide⟩

abbrev rX2_gloves_x1 : Room := { frames := 6, cells := 1, slots := 6, locals := 90 }
set_option maxRecDepth 100000 in
set_option maxHeartbeats 8000000 in
theorem t_X2_gloves_x1 {l : Launch} (hst9 : l.stackTraces = false) {D : va_G} (a0 : Nat) (aR : Nat) (aF : Nat) (aG : Nat) (cI : ClassId) (vrow : Nat → Int32) (vdrawn : Int32) (vtr : Int32) (vled : Int32) (vmov : Int32) (vw1 : Int32) (vw2 : Int32) (veo : Option Nat) (veb : Int32) (vh1 : Int64) (vt1 : Int64) (vp1 : Int32) (vk1 : Int32) (vg1 : Int32) (vh2 : Int64) (vt2 : Int64) (vp2 : Int32) (vk2 : Int32) (vg2 : Int32) (x0 : Int32) (h0 : j_X2_isArchivist x0 = 0) : jTh l yX2_gloves wsX2_gloves rX2_gloves_x1 D [.ref a0, .int x0] (jC a0 aR aF aG cI vrow vdrawn vtr vled vmov vw1 vw2 veo veb vh1 vt1 vp1 vk1 vg1 vh2 vt2 vp2 vk2 vg2) [(cI, .int)] "java/lang/IndexOutOfBoundsException" := by
  refine jTh_of (cc := cX2_gloves) (maxL := 2) (ret := (some .int)) (by decide) rfl (Nat.le_of_ble_eq_true rfl) ?_
  intro p e s m below meth c ls A S hlocks hnx hP hK hN hD hA hX hl
  obtain ⟨hx, hb, hml, hown, hts⟩ := id S
  have hl : lv_has ls 2 [(0, .ref a0), (1, .int x0)] := hl
  refine lv_iload_n hx hb dX2_gloves_0 rfl (lv_at hl 1 rfl) ?_
  refine jr_callS (n := 1) (As := [.int x0]) (rest := []) S (c_X2_isArchivist x0) gX2_gloves_X2_isArchivist rfl (by decide +kernel) rfl ⟨⟨rfl, rfl⟩, ⟨Nat.le_of_ble_eq_true rfl, Nat.le_of_ble_eq_true rfl⟩, Nat.le_of_ble_eq_true rfl, Nat.le_of_ble_eq_true rfl⟩ hP hK hN [] [] rfl rfl (lv_nil hl) rfl (Nat.le_of_ble_eq_true rfl) dX2_gloves_1 ?_
  refine lv_if_ne (tgt := 17) hx hb dX2_gloves_4 (by decide) (fun c_ => absurd h0 c_) (fun _ => ?_)
  exact jt_throw (E := "java/lang/IndexOutOfBoundsException") (text := "there is no such archivist") (ik := 113) (is := 115) (ic := 117) (rest := []) hst9 S hlocks hnx hP hK hD hX hl.1 (by decide) (by decide) (by decide +kernel) (by decide +kernel) (by decide +kernel) (by decide +kernel) (by decide +kernel) (by decide +kernel) dX2_gloves_7 dX2_gloves_10 dX2_gloves_11 dX2_gloves_13 dX2_gloves_16 ⟨by decide, by decide, by decide, by decide⟩

abbrev rX2_wouldTake_x1 : Room := { frames := 6, cells := 1, slots := 6, locals := 90 }
set_option maxRecDepth 100000 in
set_option maxHeartbeats 8000000 in
theorem t_X2_wouldTake_x1 {l : Launch} (hst9 : l.stackTraces = false) {D : va_G} (a0 : Nat) (aR : Nat) (aF : Nat) (aG : Nat) (cI : ClassId) (vrow : Nat → Int32) (vdrawn : Int32) (vtr : Int32) (vled : Int32) (vmov : Int32) (vw1 : Int32) (vw2 : Int32) (veo : Option Nat) (veb : Int32) (vh1 : Int64) (vt1 : Int64) (vp1 : Int32) (vk1 : Int32) (vg1 : Int32) (vh2 : Int64) (vt2 : Int64) (vp2 : Int32) (vk2 : Int32) (vg2 : Int32) (x0 : Int32) (h0 : j_X2_isCard x0 = 0) : jTh l yX2_wouldTake wsX2_wouldTake rX2_wouldTake_x1 D [.ref a0, .int x0] (jC a0 aR aF aG cI vrow vdrawn vtr vled vmov vw1 vw2 veo veb vh1 vt1 vp1 vk1 vg1 vh2 vt2 vp2 vk2 vg2) [(cI, .int)] "java/lang/IllegalArgumentException" := by
  refine jTh_of (cc := cX2_wouldTake) (maxL := 2) (ret := (some .int)) (by decide) rfl (Nat.le_of_ble_eq_true rfl) ?_
  intro p e s m below meth c ls A S hlocks hnx hP hK hN hD hA hX hl
  obtain ⟨hx, hb, hml, hown, hts⟩ := id S
  have hl : lv_has ls 2 [(0, .ref a0), (1, .int x0)] := hl
  refine lv_iload_n hx hb dX2_wouldTake_0 rfl (lv_at hl 1 rfl) ?_
  refine jr_callS (n := 1) (As := [.int x0]) (rest := []) S (c_X2_isCard x0) gX2_wouldTake_X2_isCard rfl (by decide +kernel) rfl ⟨⟨rfl, rfl⟩, ⟨Nat.le_of_ble_eq_true rfl, Nat.le_of_ble_eq_true rfl⟩, Nat.le_of_ble_eq_true rfl, Nat.le_of_ble_eq_true rfl⟩ hP hK hN [] [] rfl rfl (lv_nil hl) rfl (Nat.le_of_ble_eq_true rfl) dX2_wouldTake_1 ?_
  refine lv_if_ne (tgt := 17) hx hb dX2_wouldTake_4 (by decide) (fun c_ => absurd h0 c_) (fun _ => ?_)
  exact jt_throw (E := "java/lang/IllegalArgumentException") (text := "there is no such card") (ik := 71) (is := 73) (ic := 75) (rest := []) hst9 S hlocks hnx hP hK hD hX hl.1 (by decide) (by decide) (by decide +kernel) (by decide +kernel) (by decide +kernel) (by decide +kernel) (by decide +kernel) (by decide +kernel) dX2_wouldTake_7 dX2_wouldTake_10 dX2_wouldTake_11 dX2_wouldTake_13 dX2_wouldTake_16 ⟨by decide, by decide, by decide, by decide⟩

abbrev rX2_wouldTake_x2 : Room := { frames := 6, cells := 1, slots := 6, locals := 90 }
theorem inX2_wouldTake_x2_X2 : ∀ w ∈ u_ws RX2 TX2 11, w ∈ wsX2_wouldTake := by decide +kernel
set_option maxRecDepth 100000 in
set_option maxHeartbeats 8000000 in
theorem t_X2_wouldTake_x2 {l : Launch} (hst9 : l.stackTraces = false) {D : va_G} (a0 : Nat) (aR : Nat) (aF : Nat) (aG : Nat) (cI : ClassId) (vrow : Nat → Int32) (vdrawn : Int32) (vtr : Int32) (vled : Int32) (vmov : Int32) (vw1 : Int32) (vw2 : Int32) (veo : Option Nat) (veb : Int32) (vh1 : Int64) (vt1 : Int64) (vp1 : Int32) (vk1 : Int32) (vg1 : Int32) (vh2 : Int64) (vt2 : Int64) (vp2 : Int32) (vk2 : Int32) (vg2 : Int32) (x0 : Int32) (h0 : ¬ (j_X2_isCard x0 = 0)) (h1 : vled = (-1)) : jTh l yX2_wouldTake wsX2_wouldTake rX2_wouldTake_x2 D [.ref a0, .int x0] (jC a0 aR aF aG cI vrow vdrawn vtr vled vmov vw1 vw2 veo veb vh1 vt1 vp1 vk1 vg1 vh2 vt2 vp2 vk2 vg2) [(cI, .int)] "java/lang/IllegalStateException" := by
  refine jTh_of (cc := cX2_wouldTake) (maxL := 2) (ret := (some .int)) (by decide) rfl (Nat.le_of_ble_eq_true rfl) ?_
  intro p e s m below meth c ls A S hlocks hnx hP hK hN hD hA hX hl
  obtain ⟨hx, hb, hml, hown, hts⟩ := id S
  have hl : lv_has ls 2 [(0, .ref a0), (1, .int x0)] := hl
  refine lv_iload_n hx hb dX2_wouldTake_0 rfl (lv_at hl 1 rfl) ?_
  refine jr_callS (n := 1) (As := [.int x0]) (rest := []) S (c_X2_isCard x0) gX2_wouldTake_X2_isCard rfl (by decide +kernel) rfl ⟨⟨rfl, rfl⟩, ⟨Nat.le_of_ble_eq_true rfl, Nat.le_of_ble_eq_true rfl⟩, Nat.le_of_ble_eq_true rfl, Nat.le_of_ble_eq_true rfl⟩ hP hK hN [] [] rfl rfl (lv_nil hl) rfl (Nat.le_of_ble_eq_true rfl) dX2_wouldTake_1 ?_
  refine lv_if_ne (tgt := 17) hx hb dX2_wouldTake_4 (by decide) (fun _ => ?_) (fun c_ => absurd c_ h0)
  refine lv_aload_n hx hb dX2_wouldTake_17 rfl (lv_at hl 0 rfl) ?_
  refine va_get (D := D) (ci := 2) (v := .int vled) (C := RX2) (T := TX2) (N := 11) hx hb hts inX2_wouldTake_x2_X2 hown hK hP 0 rfl rfl 5 (by decide) (hts (.fieldLink RX2 30 "ArchivistTricks" "ledCard" "I") (by decide +kernel)) (fun _ h9 => h9) rfl dX2_wouldTake_18 ?_
  refine lv_iconst (v := (-1)) hx hb dX2_wouldTake_21 (by decide) ?_
  refine lv_icmp_eq (tgt := 33) hx hb dX2_wouldTake_22 (by decide) (fun _ => ?_) (fun c_ => absurd h1 c_)
  exact jt_throw (E := "java/lang/IllegalStateException") (text := "no card is led, or it is this one") (ik := 82) (is := 139) (ic := 86) (rest := []) hst9 S hlocks hnx hP hK hD hX hl.1 (by decide) (by decide) (by decide +kernel) (by decide +kernel) (by decide +kernel) (by decide +kernel) (by decide +kernel) (by decide +kernel) dX2_wouldTake_33 dX2_wouldTake_36 dX2_wouldTake_37 dX2_wouldTake_39 dX2_wouldTake_42 ⟨by decide, by decide, by decide, by decide⟩

abbrev rX2_wouldTake_x3 : Room := { frames := 6, cells := 1, slots := 6, locals := 90 }
theorem inX2_wouldTake_x3_X2 : ∀ w ∈ u_ws RX2 TX2 11, w ∈ wsX2_wouldTake := by decide +kernel
set_option maxRecDepth 100000 in
set_option maxHeartbeats 8000000 in
theorem t_X2_wouldTake_x3 {l : Launch} (hst9 : l.stackTraces = false) {D : va_G} (a0 : Nat) (aR : Nat) (aF : Nat) (aG : Nat) (cI : ClassId) (vrow : Nat → Int32) (vdrawn : Int32) (vtr : Int32) (vled : Int32) (vmov : Int32) (vw1 : Int32) (vw2 : Int32) (veo : Option Nat) (veb : Int32) (vh1 : Int64) (vt1 : Int64) (vp1 : Int32) (vk1 : Int32) (vg1 : Int32) (vh2 : Int64) (vt2 : Int64) (vp2 : Int32) (vk2 : Int32) (vg2 : Int32) (x0 : Int32) (h0 : ¬ (j_X2_isCard x0 = 0)) (h1 : ¬ (vled = (-1))) (h2 : vled = x0) : jTh l yX2_wouldTake wsX2_wouldTake rX2_wouldTake_x3 D [.ref a0, .int x0] (jC a0 aR aF aG cI vrow vdrawn vtr vled vmov vw1 vw2 veo veb vh1 vt1 vp1 vk1 vg1 vh2 vt2 vp2 vk2 vg2) [(cI, .int)] "java/lang/IllegalStateException" := by
  refine jTh_of (cc := cX2_wouldTake) (maxL := 2) (ret := (some .int)) (by decide) rfl (Nat.le_of_ble_eq_true rfl) ?_
  intro p e s m below meth c ls A S hlocks hnx hP hK hN hD hA hX hl
  obtain ⟨hx, hb, hml, hown, hts⟩ := id S
  have hl : lv_has ls 2 [(0, .ref a0), (1, .int x0)] := hl
  refine lv_iload_n hx hb dX2_wouldTake_0 rfl (lv_at hl 1 rfl) ?_
  refine jr_callS (n := 1) (As := [.int x0]) (rest := []) S (c_X2_isCard x0) gX2_wouldTake_X2_isCard rfl (by decide +kernel) rfl ⟨⟨rfl, rfl⟩, ⟨Nat.le_of_ble_eq_true rfl, Nat.le_of_ble_eq_true rfl⟩, Nat.le_of_ble_eq_true rfl, Nat.le_of_ble_eq_true rfl⟩ hP hK hN [] [] rfl rfl (lv_nil hl) rfl (Nat.le_of_ble_eq_true rfl) dX2_wouldTake_1 ?_
  refine lv_if_ne (tgt := 17) hx hb dX2_wouldTake_4 (by decide) (fun _ => ?_) (fun c_ => absurd c_ h0)
  refine lv_aload_n hx hb dX2_wouldTake_17 rfl (lv_at hl 0 rfl) ?_
  refine va_get (D := D) (ci := 2) (v := .int vled) (C := RX2) (T := TX2) (N := 11) hx hb hts inX2_wouldTake_x3_X2 hown hK hP 0 rfl rfl 5 (by decide) (hts (.fieldLink RX2 30 "ArchivistTricks" "ledCard" "I") (by decide +kernel)) (fun _ h9 => h9) rfl dX2_wouldTake_18 ?_
  refine lv_iconst (v := (-1)) hx hb dX2_wouldTake_21 (by decide) ?_
  refine lv_icmp_eq (tgt := 33) hx hb dX2_wouldTake_22 (by decide) (fun c_ => absurd c_ h1) (fun _ => ?_)
  refine lv_aload_n hx hb dX2_wouldTake_25 rfl (lv_at hl 0 rfl) ?_
  refine va_get (D := D) (ci := 2) (v := .int vled) (C := RX2) (T := TX2) (N := 11) hx hb hts inX2_wouldTake_x3_X2 hown hK hP 0 rfl rfl 5 (by decide) (hts (.fieldLink RX2 30 "ArchivistTricks" "ledCard" "I") (by decide +kernel)) (fun _ h9 => h9) rfl dX2_wouldTake_26 ?_
  refine lv_iload_n hx hb dX2_wouldTake_29 rfl (lv_at hl 1 rfl) ?_
  refine lv_icmp_ne (tgt := 43) hx hb dX2_wouldTake_30 (by decide) (fun c_ => absurd h2 c_) (fun _ => ?_)
  exact jt_throw (E := "java/lang/IllegalStateException") (text := "no card is led, or it is this one") (ik := 82) (is := 139) (ic := 86) (rest := []) hst9 S hlocks hnx hP hK hD hX hl.1 (by decide) (by decide) (by decide +kernel) (by decide +kernel) (by decide +kernel) (by decide +kernel) (by decide +kernel) (by decide +kernel) dX2_wouldTake_33 dX2_wouldTake_36 dX2_wouldTake_37 dX2_wouldTake_39 dX2_wouldTake_42 ⟨by decide, by decide, by decide, by decide⟩

abbrev rX2_cardAt_x1 : Room := { frames := 6, cells := 1, slots := 6, locals := 90 }
set_option maxRecDepth 100000 in
set_option maxHeartbeats 8000000 in
theorem t_X2_cardAt_x1 {l : Launch} (hst9 : l.stackTraces = false) {D : va_G} (a0 : Nat) (aR : Nat) (aF : Nat) (aG : Nat) (cI : ClassId) (vrow : Nat → Int32) (vdrawn : Int32) (vtr : Int32) (vled : Int32) (vmov : Int32) (vw1 : Int32) (vw2 : Int32) (veo : Option Nat) (veb : Int32) (vh1 : Int64) (vt1 : Int64) (vp1 : Int32) (vk1 : Int32) (vg1 : Int32) (vh2 : Int64) (vt2 : Int64) (vp2 : Int32) (vk2 : Int32) (vg2 : Int32) (x0 : Int32) (x1 : Int32) (h0 : j_X2_isArchivist x0 = 0) : jTh l yX2_cardAt wsX2_cardAt rX2_cardAt_x1 D [.ref a0, .int x0, .int x1] (jC a0 aR aF aG cI vrow vdrawn vtr vled vmov vw1 vw2 veo veb vh1 vt1 vp1 vk1 vg1 vh2 vt2 vp2 vk2 vg2) [(cI, .int)] "java/lang/IndexOutOfBoundsException" := by
  refine jTh_of (cc := cX2_cardAt) (maxL := 7) (ret := (some .int)) (by decide) rfl (Nat.le_of_ble_eq_true rfl) ?_
  intro p e s m below meth c ls A S hlocks hnx hP hK hN hD hA hX hl
  obtain ⟨hx, hb, hml, hown, hts⟩ := id S
  have hl : lv_has ls 7 [(0, .ref a0), (1, .int x0), (2, .int x1)] := hl
  refine lv_iload_n hx hb dX2_cardAt_0 rfl (lv_at hl 1 rfl) ?_
  refine jr_callS (n := 1) (As := [.int x0]) (rest := []) S (c_X2_isArchivist x0) gX2_cardAt_X2_isArchivist rfl (by decide +kernel) rfl ⟨⟨rfl, rfl⟩, ⟨Nat.le_of_ble_eq_true rfl, Nat.le_of_ble_eq_true rfl⟩, Nat.le_of_ble_eq_true rfl, Nat.le_of_ble_eq_true rfl⟩ hP hK hN [] [] rfl rfl (lv_nil hl) rfl (Nat.le_of_ble_eq_true rfl) dX2_cardAt_1 ?_
  refine lv_if_ne (tgt := 17) hx hb dX2_cardAt_4 (by decide) (fun c_ => absurd h0 c_) (fun _ => ?_)
  exact jt_throw (E := "java/lang/IndexOutOfBoundsException") (text := "there is no such archivist") (ik := 113) (is := 115) (ic := 117) (rest := []) hst9 S hlocks hnx hP hK hD hX hl.1 (by decide) (by decide) (by decide +kernel) (by decide +kernel) (by decide +kernel) (by decide +kernel) (by decide +kernel) (by decide +kernel) dX2_cardAt_7 dX2_cardAt_10 dX2_cardAt_11 dX2_cardAt_13 dX2_cardAt_16 ⟨by decide, by decide, by decide, by decide⟩

abbrev rX2_cardAt_x2 : Room := { frames := 6, cells := 1, slots := 6, locals := 90 }
theorem inX2_cardAt_x2_X0 : ∀ w ∈ u_ws RX0 TX0 5, w ∈ wsX2_cardAt := by decide +kernel
set_option maxRecDepth 100000 in
set_option maxHeartbeats 8000000 in
theorem t_X2_cardAt_x2 {l : Launch} (hst9 : l.stackTraces = false) {D : va_G} (a0 : Nat) (aR : Nat) (aF : Nat) (aG : Nat) (cI : ClassId) (vrow : Nat → Int32) (vdrawn : Int32) (vtr : Int32) (vled : Int32) (vmov : Int32) (vw1 : Int32) (vw2 : Int32) (veo : Option Nat) (veb : Int32) (vh1 : Int64) (vt1 : Int64) (vp1 : Int32) (vk1 : Int32) (vg1 : Int32) (vh2 : Int64) (vt2 : Int64) (vp2 : Int32) (vk2 : Int32) (vg2 : Int32) (x0 : Int32) (x1 : Int32) (hne : j_X2_cardAt vh1 vh2 x0 x1 = -1) (h0 : ¬ (j_X2_isArchivist x0 = 0)) : jTh l yX2_cardAt wsX2_cardAt rX2_cardAt_x2 D [.ref a0, .int x0, .int x1] (jC a0 aR aF aG cI vrow vdrawn vtr vled vmov vw1 vw2 veo veb vh1 vt1 vp1 vk1 vg1 vh2 vt2 vp2 vk2 vg2) [(cI, .int)] "java/lang/IndexOutOfBoundsException" := by
  refine jTh_of (cc := cX2_cardAt) (maxL := 7) (ret := (some .int)) (by decide) rfl (Nat.le_of_ble_eq_true rfl) ?_
  intro p e s m below meth c ls A S hlocks hnx hP hK hN hD hA hX hl
  obtain ⟨hx, hb, hml, hown, hts⟩ := id S
  have hl : lv_has ls 7 [(0, .ref a0), (1, .int x0), (2, .int x1)] := hl
  have loop32 : ∀ (n i : Nat) (y3 : Int64) (y5 : Int32), i + n = 42 → j_X2_cardAt_32 vh1 vh2 x0 x1 n i y3 y5 = -1 → ∀ (ls : Array Slot), lv_has ls 7 [(6, .int (nI i)), (3, .long y3), (5, .int y5), (0, .ref a0), (1, .int x0), (2, .int x1)] → W p l e rX2_cardAt_x2 s m ([.ref a0, .int x0, .int x1] : List Value).toArray below meth c s.heap [] 0 0 (vx_MQ below (jQF A) (jXC D (jC a0 aR aF aG cI vrow vdrawn vtr vled vmov vw1 vw2 veo veb vh1 vt1 vp1 vk1 vg1 vh2 vt2 vp2 vk2 vg2) [(cI, .int)] "java/lang/IndexOutOfBoundsException" A) ([.ref a0, .int x0, .int x1] : List Value).toArray s 1 6 A) (F0 m 32 ls []) := by
    intro n
    induction n with
    | zero =>
      intro i y3 y5 hin hv ls hl
      have hge : (42 : Int32) ≤ nI i := by rw [show i = 42 by omega]; decide
      refine lv_iload hx hb dX2_cardAt_32 (lv_at hl 0 rfl) ?_
      refine lv_bipush (v := 42) hx hb dX2_cardAt_34 (by decide) ?_
      refine lv_icmp_ge (tgt := 66) hx hb dX2_cardAt_36 (by decide) (fun _ => ?_) (fun c_ => absurd hge c_)
      exact jt_throw (E := "java/lang/IndexOutOfBoundsException") (text := "there are not so many cards") (ik := 113) (is := 128) (ic := 117) (rest := []) hst9 S hlocks hnx hP hK hD hX hl.1 (by decide) (by decide) (by decide +kernel) (by decide +kernel) (by decide +kernel) (by decide +kernel) (by decide +kernel) (by decide +kernel) dX2_cardAt_66 dX2_cardAt_69 dX2_cardAt_70 dX2_cardAt_72 dX2_cardAt_75 ⟨by decide, by decide, by decide, by decide⟩
    | succ n ih =>
      intro i y3 y5 hin hv ls hl
      have hge : ¬ (42 : Int32) ≤ nI i := nI_ge (a := i) (b := 42) (by omega) (by decide)
      refine lv_iload hx hb dX2_cardAt_32 (lv_at hl 0 rfl) ?_
      refine lv_bipush (v := 42) hx hb dX2_cardAt_34 (by decide) ?_
      refine lv_icmp_ge (tgt := 66) hx hb dX2_cardAt_36 (by decide) (fun c_ => absurd c_ hge) (fun _ => ?_)
      refine lv_lload_n hx hb dX2_cardAt_39 rfl (lv_at hl 1 rfl) ?_
      refine lv_iload hx hb dX2_cardAt_40 (lv_at hl 0 rfl) ?_
      refine jr_callS (n := 2) (As := [.long y3, .int (nI i)]) (rest := []) S (c_X2_has y3 (nI i)) gX2_cardAt_X2_has rfl (by decide +kernel) rfl ⟨⟨rfl, rfl⟩, ⟨Nat.le_of_ble_eq_true rfl, Nat.le_of_ble_eq_true rfl⟩, Nat.le_of_ble_eq_true rfl, Nat.le_of_ble_eq_true rfl⟩ hP hK hN [] [] rfl rfl (lv_nil hl) rfl (Nat.le_of_ble_eq_true rfl) dX2_cardAt_42 ?_
      refine lv_if_eq (tgt := 60) hx hb dX2_cardAt_45 (by decide) (fun c_32001 => ?_) (fun c_32001 => ?_)
      · skip
        refine lv_iinc (v := nI (i + 1)) (lv' := [(6, .int (nI (i + 1))), (3, .long y3), (5, .int y5), (0, .ref a0), (1, .int x0), (2, .int x1)]) hx hb dX2_cardAt_60 hl (k := 0) rfl (nI_1 i) (by decide) rfl (fun ls hl => ?_)
        refine lv_goto (tgt := 32) hx hb dX2_cardAt_63 (by decide) ?_
        exact ih (i + 1) y3 y5 (by omega) (by rw [← hv]; simp only [j_X2_cardAt_32, if_neg h0, if_neg hge, if_pos c_32001]) ls (lv_sub hl [0, 1, 2, 3, 4, 5] rfl)
      · skip
        refine lv_iload hx hb dX2_cardAt_48 (lv_at hl 2 rfl) ?_
        refine lv_iload_n hx hb dX2_cardAt_50 rfl (lv_at hl 5 rfl) ?_
        refine lv_icmp_ne (tgt := 57) hx hb dX2_cardAt_51 (by decide) (fun c_32002 => ?_) (fun c_32002 => ?_)
        · skip
          refine lv_iinc (v := y5 + 1) (lv' := [(5, .int (y5 + 1)), (6, .int (nI i)), (3, .long y3), (0, .ref a0), (1, .int x0), (2, .int x1)]) hx hb dX2_cardAt_57 hl (k := 2) rfl rfl (by decide) rfl (fun ls hl => ?_)
          refine lv_iinc (v := nI (i + 1)) (lv' := [(6, .int (nI (i + 1))), (5, .int (y5 + 1)), (3, .long y3), (0, .ref a0), (1, .int x0), (2, .int x1)]) hx hb dX2_cardAt_60 hl (k := 1) rfl (nI_1 i) (by decide) rfl (fun ls hl => ?_)
          refine lv_goto (tgt := 32) hx hb dX2_cardAt_63 (by decide) ?_
          exact ih (i + 1) y3 (y5 + 1) (by omega) (by rw [← hv]; simp only [j_X2_cardAt_32, if_neg h0, if_neg hge, if_neg c_32001, if_neg c_32002]) ls (lv_sub hl [0, 2, 1, 3, 4, 5] rfl)
        · skip
          refine lv_iload hx hb dX2_cardAt_54 (lv_at hl 0 rfl) ?_
          exact absurd hv (by simp only [j_X2_cardAt_32, if_neg h0, if_neg hge, if_neg c_32001, if_pos c_32002]; exact jx_nm1 (by omega))
  refine lv_iload_n hx hb dX2_cardAt_0 rfl (lv_at hl 1 rfl) ?_
  refine jr_callS (n := 1) (As := [.int x0]) (rest := []) S (c_X2_isArchivist x0) gX2_cardAt_X2_isArchivist rfl (by decide +kernel) rfl ⟨⟨rfl, rfl⟩, ⟨Nat.le_of_ble_eq_true rfl, Nat.le_of_ble_eq_true rfl⟩, Nat.le_of_ble_eq_true rfl, Nat.le_of_ble_eq_true rfl⟩ hP hK hN [] [] rfl rfl (lv_nil hl) rfl (Nat.le_of_ble_eq_true rfl) dX2_cardAt_1 ?_
  refine lv_if_ne (tgt := 17) hx hb dX2_cardAt_4 (by decide) (fun _ => ?_) (fun c_ => absurd c_ h0)
  refine lv_aload_n hx hb dX2_cardAt_17 rfl (lv_at hl 0 rfl) ?_
  refine lv_iload_n hx hb dX2_cardAt_18 rfl (lv_at hl 1 rfl) ?_
  refine jr_callV (n := 1) (C := RX2) (As := [.int x0]) (rest := []) S (c_X2_archivist a0 aR aF aG cI vrow vdrawn vtr vled vmov vw1 vw2 veo veb vh1 vt1 vp1 vk1 vg1 vh2 vt2 vp2 vk2 vg2 x0) gX2_cardAt_X2_archivist rfl (by decide +kernel) rfl ⟨⟨rfl, rfl⟩, ⟨Nat.le_of_ble_eq_true rfl, Nat.le_of_ble_eq_true rfl⟩, Nat.le_of_ble_eq_true rfl, Nat.le_of_ble_eq_true rfl⟩ hP hK hN [0, 1, 2, 3] [0] rfl rfl 0 2 rfl rfl rfl (lv_nil hl) rfl (Nat.le_of_ble_eq_true rfl) dX2_cardAt_19 ?_
  refine jr_ite (c0 := x0 = 0) (a := aF) (b := aG) rfl (fun c_1 => ?_) (fun c_1 => ?_)
  · skip
    refine va_get (D := D) (ci := 0) (v := .long vh1) (C := RX0) (T := TX0) (N := 5) hx hb hts inX2_cardAt_x2_X0 hown hK hP 1 rfl rfl 0 (by decide) (hts (.fieldLink RX2 91 "ArchivistTricks$Archivist" "hand" "J") (by decide +kernel)) (fun _ h9 => h9) rfl dX2_cardAt_22 ?_
    refine lv_lstore_n (lv' := [(3, .long vh1), (0, .ref a0), (1, .int x0), (2, .int x1)]) hx hb dX2_cardAt_25 rfl hl (by decide) rfl (fun ls hl => ?_)
    refine lv_iconst (v := 0) hx hb dX2_cardAt_26 (by decide) ?_
    refine lv_istore (lv' := [(5, .int 0), (3, .long vh1), (0, .ref a0), (1, .int x0), (2, .int x1)]) hx hb dX2_cardAt_27 hl (by decide) rfl (fun ls hl => ?_)
    refine lv_iconst (v := 0) hx hb dX2_cardAt_29 (by decide) ?_
    refine lv_istore (lv' := [(6, .int 0), (5, .int 0), (3, .long vh1), (0, .ref a0), (1, .int x0), (2, .int x1)]) hx hb dX2_cardAt_30 hl (by decide) rfl (fun ls hl => ?_)
    exact loop32 42 0 vh1 0 rfl (by rw [← hne]; simp only [j_X2_cardAt, if_neg h0, if_pos c_1]) ls (lv_sub (l' := [(6, .int (nI 0)), (3, .long vh1), (5, .int 0), (0, .ref a0), (1, .int x0), (2, .int x1)]) hl [0, 2, 1, 3, 4, 5] rfl)
  · skip
    refine va_get (D := D) (ci := 0) (v := .long vh2) (C := RX0) (T := TX0) (N := 5) hx hb hts inX2_cardAt_x2_X0 hown hK hP 2 rfl rfl 0 (by decide) (hts (.fieldLink RX2 91 "ArchivistTricks$Archivist" "hand" "J") (by decide +kernel)) (fun _ h9 => h9) rfl dX2_cardAt_22 ?_
    refine lv_lstore_n (lv' := [(3, .long vh2), (0, .ref a0), (1, .int x0), (2, .int x1)]) hx hb dX2_cardAt_25 rfl hl (by decide) rfl (fun ls hl => ?_)
    refine lv_iconst (v := 0) hx hb dX2_cardAt_26 (by decide) ?_
    refine lv_istore (lv' := [(5, .int 0), (3, .long vh2), (0, .ref a0), (1, .int x0), (2, .int x1)]) hx hb dX2_cardAt_27 hl (by decide) rfl (fun ls hl => ?_)
    refine lv_iconst (v := 0) hx hb dX2_cardAt_29 (by decide) ?_
    refine lv_istore (lv' := [(6, .int 0), (5, .int 0), (3, .long vh2), (0, .ref a0), (1, .int x0), (2, .int x1)]) hx hb dX2_cardAt_30 hl (by decide) rfl (fun ls hl => ?_)
    exact loop32 42 0 vh2 0 rfl (by rw [← hne]; simp only [j_X2_cardAt, if_neg h0, if_neg c_1]) ls (lv_sub (l' := [(6, .int (nI 0)), (3, .long vh2), (5, .int 0), (0, .ref a0), (1, .int x0), (2, .int x1)]) hl [0, 2, 1, 3, 4, 5] rfl)

abbrev rX2_best_x1 : Room := { frames := 6, cells := 1, slots := 6, locals := 90 }
set_option maxRecDepth 100000 in
set_option maxHeartbeats 8000000 in
theorem t_X2_best_x1 {l : Launch} (hst9 : l.stackTraces = false) {D : va_G} (a0 : Nat) (aR : Nat) (aF : Nat) (aG : Nat) (cI : ClassId) (vrow : Nat → Int32) (vdrawn : Int32) (vtr : Int32) (vled : Int32) (vmov : Int32) (vw1 : Int32) (vw2 : Int32) (veo : Option Nat) (veb : Int32) (vh1 : Int64) (vt1 : Int64) (vp1 : Int32) (vk1 : Int32) (vg1 : Int32) (vh2 : Int64) (vt2 : Int64) (vp2 : Int32) (vk2 : Int32) (vg2 : Int32) (h0 : j_X2_isEnding vdrawn vmov = 0) : jTh l yX2_best wsX2_best rX2_best_x1 D [.ref a0] (jC a0 aR aF aG cI vrow vdrawn vtr vled vmov vw1 vw2 veo veb vh1 vt1 vp1 vk1 vg1 vh2 vt2 vp2 vk2 vg2) [(cI, .int)] "java/lang/IllegalStateException" := by
  refine jTh_of (cc := cX2_best) (maxL := 1) (ret := (some .int)) (by decide) rfl (Nat.le_of_ble_eq_true rfl) ?_
  intro p e s m below meth c ls A S hlocks hnx hP hK hN hD hA hX hl
  obtain ⟨hx, hb, hml, hown, hts⟩ := id S
  have hl : lv_has ls 1 [(0, .ref a0)] := hl
  refine lv_aload_n hx hb dX2_best_0 rfl (lv_at hl 0 rfl) ?_
  refine jr_callV (n := 0) (C := RX2) (As := []) (rest := []) S (c_X2_isEnding a0 aR aF aG cI vrow vdrawn vtr vled vmov vw1 vw2 veo veb vh1 vt1 vp1 vk1 vg1 vh2 vt2 vp2 vk2 vg2) gX2_best_X2_isEnding rfl (by decide +kernel) rfl ⟨⟨rfl, rfl⟩, ⟨Nat.le_of_ble_eq_true rfl, Nat.le_of_ble_eq_true rfl⟩, Nat.le_of_ble_eq_true rfl, Nat.le_of_ble_eq_true rfl⟩ hP hK hN [0, 1, 2, 3] [0] rfl rfl 0 2 rfl rfl rfl (lv_nil hl) rfl (Nat.le_of_ble_eq_true rfl) dX2_best_1 ?_
  refine lv_if_ne (tgt := 17) hx hb dX2_best_4 (by decide) (fun c_ => absurd h0 c_) (fun _ => ?_)
  exact jt_throw (E := "java/lang/IllegalStateException") (text := "the pile is not empty, or no game is on") (ik := 82) (is := 148) (ic := 86) (rest := []) hst9 S hlocks hnx hP hK hD hX hl.1 (by decide) (by decide) (by decide +kernel) (by decide +kernel) (by decide +kernel) (by decide +kernel) (by decide +kernel) (by decide +kernel) dX2_best_7 dX2_best_10 dX2_best_11 dX2_best_13 dX2_best_16 ⟨by decide, by decide, by decide, by decide⟩

abbrev rX2_bestCard_x1 : Room := { frames := 6, cells := 1, slots := 6, locals := 90 }
set_option maxRecDepth 100000 in
set_option maxHeartbeats 8000000 in
theorem t_X2_bestCard_x1 {l : Launch} (hst9 : l.stackTraces = false) {D : va_G} (a0 : Nat) (aR : Nat) (aF : Nat) (aG : Nat) (cI : ClassId) (vrow : Nat → Int32) (vdrawn : Int32) (vtr : Int32) (vled : Int32) (vmov : Int32) (vw1 : Int32) (vw2 : Int32) (veo : Option Nat) (veb : Int32) (vh1 : Int64) (vt1 : Int64) (vp1 : Int32) (vk1 : Int32) (vg1 : Int32) (vh2 : Int64) (vt2 : Int64) (vp2 : Int32) (vk2 : Int32) (vg2 : Int32) (h0 : j_X2_isEnding vdrawn vmov = 0) : jTh l yX2_bestCard wsX2_bestCard rX2_bestCard_x1 D [.ref a0] (jC a0 aR aF aG cI vrow vdrawn vtr vled vmov vw1 vw2 veo veb vh1 vt1 vp1 vk1 vg1 vh2 vt2 vp2 vk2 vg2) [(cI, .int)] "java/lang/IllegalStateException" := by
  refine jTh_of (cc := cX2_bestCard) (maxL := 1) (ret := (some .int)) (by decide) rfl (Nat.le_of_ble_eq_true rfl) ?_
  intro p e s m below meth c ls A S hlocks hnx hP hK hN hD hA hX hl
  obtain ⟨hx, hb, hml, hown, hts⟩ := id S
  have hl : lv_has ls 1 [(0, .ref a0)] := hl
  refine lv_aload_n hx hb dX2_bestCard_0 rfl (lv_at hl 0 rfl) ?_
  refine jr_callV (n := 0) (C := RX2) (As := []) (rest := []) S (c_X2_isEnding a0 aR aF aG cI vrow vdrawn vtr vled vmov vw1 vw2 veo veb vh1 vt1 vp1 vk1 vg1 vh2 vt2 vp2 vk2 vg2) gX2_bestCard_X2_isEnding rfl (by decide +kernel) rfl ⟨⟨rfl, rfl⟩, ⟨Nat.le_of_ble_eq_true rfl, Nat.le_of_ble_eq_true rfl⟩, Nat.le_of_ble_eq_true rfl, Nat.le_of_ble_eq_true rfl⟩ hP hK hN [0, 1, 2, 3] [0] rfl rfl 0 2 rfl rfl rfl (lv_nil hl) rfl (Nat.le_of_ble_eq_true rfl) dX2_bestCard_1 ?_
  refine lv_if_ne (tgt := 17) hx hb dX2_bestCard_4 (by decide) (fun c_ => absurd h0 c_) (fun _ => ?_)
  exact jt_throw (E := "java/lang/IllegalStateException") (text := "the pile is not empty, or no game is on") (ik := 82) (is := 148) (ic := 86) (rest := []) hst9 S hlocks hnx hP hK hD hX hl.1 (by decide) (by decide) (by decide +kernel) (by decide +kernel) (by decide +kernel) (by decide +kernel) (by decide +kernel) (by decide +kernel) dX2_bestCard_7 dX2_bestCard_10 dX2_bestCard_11 dX2_bestCard_13 dX2_bestCard_16 ⟨by decide, by decide, by decide, by decide⟩

