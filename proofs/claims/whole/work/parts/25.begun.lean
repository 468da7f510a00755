/-! THE CLASS: begunEnding, where the ending is there (laid by wip/whole/rows.py) -/
abbrev jCE (a0 : Nat) (aR : Nat) (aF : Nat) (aG : Nat) (cI : ClassId) (vrow : Nat → Int32) (vdrawn : Int32) (vtr : Int32) (vled : Int32) (vmov : Int32) (vw1 : Int32) (vw2 : Int32) (veb : Int32) (vh1 : Int64) (vt1 : Int64) (vp1 : Int32) (vk1 : Int32) (vg1 : Int32) (vh2 : Int64) (vt2 : Int64) (vp2 : Int32) (vk2 : Int32) (vg2 : Int32) (aE : Nat) (aM : Nat) (cM : ClassId) (vtab : Nat → Int32) (vfa : Int64) (vsa : Int64) (ver : Int32) : va_W := [(a0, .inr (2, [.ref aR, .ref aF, .ref aG, .int vdrawn, .int vtr, .int vled, .int vmov, .int vw1, .int vw2, .ref aE, .int veb])), (aF, .inr (0, [.long vh1, .long vt1, .int vp1, .int vk1, .int vg1])), (aG, .inr (0, [.long vh2, .long vt2, .int vp2, .int vk2, .int vg2])), (aR, .inl (cI, 42, .inl vrow)), (aE, .inr (1, [.ref aM, .long vfa, .long vsa, .int ver])), (aM, .inl (cM, 8192, .inl vtab))]

abbrev rX2_begunEnding_S1 : Room := { frames := 0, cells := 0, slots := 0, locals := 0 }
theorem inX2_begunEnding_S1_X2 : ∀ w ∈ u_ws RX2 TX2 11, w ∈ wsX2_begunEnding := by decide +kernel
set_option maxRecDepth 100000 in
set_option maxHeartbeats 8000000 in
theorem c_X2_begunEnding_S1 {l : Launch} {D : va_G} (a0 : Nat) (aR : Nat) (aF : Nat) (aG : Nat) (cI : ClassId) (vrow : Nat → Int32) (vdrawn : Int32) (vtr : Int32) (vled : Int32) (vmov : Int32) (vw1 : Int32) (vw2 : Int32) (veb : Int32) (vh1 : Int64) (vt1 : Int64) (vp1 : Int32) (vk1 : Int32) (vg1 : Int32) (vh2 : Int64) (vt2 : Int64) (vp2 : Int32) (vk2 : Int32) (vg2 : Int32) (aE : Nat) (aM : Nat) (cM : ClassId) (vtab : Nat → Int32) (vfa : Int64) (vsa : Int64) (ver : Int32) (h0 : ¬ (veb = 0)) : jWa l yX2_begunEnding wsX2_begunEnding rX2_begunEnding_S1 D [.ref a0] (jCE a0 aR aF aG cI vrow vdrawn vtr vled vmov vw1 vw2 veb vh1 vt1 vp1 vk1 vg1 vh2 vt2 vp2 vk2 vg2 aE aM cM vtab vfa vsa ver) [(cI, .int), (cM, .int)] aE (jCE a0 aR aF aG cI vrow vdrawn vtr vled vmov vw1 vw2 veb vh1 vt1 vp1 vk1 vg1 vh2 vt2 vp2 vk2 vg2 aE aM cM vtab vfa vsa ver) := by
  refine jW_of (QQ := fun A => (jQa D aE (jCE a0 aR aF aG cI vrow vdrawn vtr vled vmov vw1 vw2 veb vh1 vt1 vp1 vk1 vg1 vh2 vt2 vp2 vk2 vg2 aE aM cM vtab vfa vsa ver) [(cI, .int), (cM, .int)] A)) (cc := cX2_begunEnding) (maxL := 1) (ret := (some (.object "ArchivistTricks$Ending"))) (by decide) rfl (Nat.le_of_ble_eq_true rfl) ?_
  intro p e s m below meth c ls A S hr hlocks hini hP hK hN hD hS hA hl
  obtain ⟨hx, hb, hml, hown, hts⟩ := id S
  have hl : lv_has ls 1 [(0, .ref a0)] := hl
  refine lv_aload_n hx hb dX2_begunEnding_0 rfl (lv_at hl 0 rfl) ?_
  refine va_get (D := D) (ci := 2) (v := .ref aE) (C := RX2) (T := TX2) (N := 11) hx hb hts inX2_begunEnding_S1_X2 hown hK hP 0 rfl rfl 9 (by decide) (hts (.fieldLink RX2 42 "ArchivistTricks" "ending" "LArchivistTricks$Ending;") (by decide +kernel)) (fun _ h9 => h9) rfl dX2_begunEnding_1 ?_
  refine lv_ifnonnull (tgt := 18) hx hb dX2_begunEnding_4 (by decide) ?_
  refine lv_aload_n hx hb dX2_begunEnding_18 rfl (lv_at hl 0 rfl) ?_
  refine va_get (D := D) (ci := 2) (v := .int veb) (C := RX2) (T := TX2) (N := 11) hx hb hts inX2_begunEnding_S1_X2 hown hK hP 0 rfl rfl 10 (by decide) (hts (.fieldLink RX2 46 "ArchivistTricks" "endingBegun" "Z") (by decide +kernel)) (fun _ h9 => h9) rfl dX2_begunEnding_19 ?_
  refine lv_if_ne (tgt := 55) hx hb dX2_begunEnding_22 (by decide) (fun _ => ?_) (fun c_ => absurd c_ h0)
  refine lv_aload_n hx hb dX2_begunEnding_55 rfl (lv_at hl 0 rfl) ?_
  refine va_get (D := D) (ci := 2) (v := .ref aE) (C := RX2) (T := TX2) (N := 11) hx hb hts inX2_begunEnding_S1_X2 hown hK hP 0 rfl rfl 9 (by decide) (hts (.fieldLink RX2 42 "ArchivistTricks" "ending" "LArchivistTricks$Ending;") (by decide +kernel)) (fun _ h9 => h9) rfl dX2_begunEnding_56 ?_
  exact jw_aret hx hb hr hlocks hK hP hD hS dX2_begunEnding_59 (by  simp only [id, if_neg h0])

abbrev rX2_begunEnding_S0 : Room := { frames := 2, cells := 0, slots := 0, locals := 48 }
def j_X2_begunEnding_S0_veb  : Int32 := 1
def j_X2_begunEnding_S0_vtab (vtab : Nat → Int32) : Nat → Int32 := j_X1_begin_vtab vtab
def j_X2_begunEnding_S0_vfa (vh1 : Int64) : Int64 := j_X1_begin_vfa vh1
def j_X2_begunEnding_S0_vsa (vh2 : Int64) : Int64 := j_X1_begin_vsa vh2
def j_X2_begunEnding_S0_ver (vtr : Int32) : Int32 := j_X1_begin_vtr vtr
theorem inX2_begunEnding_S0_X0 : ∀ w ∈ u_ws RX0 TX0 5, w ∈ wsX2_begunEnding := by decide +kernel
theorem inX2_begunEnding_S0_X2 : ∀ w ∈ u_ws RX2 TX2 11, w ∈ wsX2_begunEnding := by decide +kernel
set_option maxRecDepth 100000 in
set_option maxHeartbeats 8000000 in
theorem c_X2_begunEnding_S0 {l : Launch} {D : va_G} (a0 : Nat) (aR : Nat) (aF : Nat) (aG : Nat) (cI : ClassId) (vrow : Nat → Int32) (vdrawn : Int32) (vtr : Int32) (vled : Int32) (vmov : Int32) (vw1 : Int32) (vw2 : Int32) (veb : Int32) (vh1 : Int64) (vt1 : Int64) (vp1 : Int32) (vk1 : Int32) (vg1 : Int32) (vh2 : Int64) (vt2 : Int64) (vp2 : Int32) (vk2 : Int32) (vg2 : Int32) (aE : Nat) (aM : Nat) (cM : ClassId) (vtab : Nat → Int32) (vfa : Int64) (vsa : Int64) (ver : Int32) (h0 : veb = 0) : jWa l yX2_begunEnding wsX2_begunEnding rX2_begunEnding_S0 D [.ref a0] (jCE a0 aR aF aG cI vrow vdrawn vtr vled vmov vw1 vw2 veb vh1 vt1 vp1 vk1 vg1 vh2 vt2 vp2 vk2 vg2 aE aM cM vtab vfa vsa ver) [(cI, .int), (cM, .int)] aE (jCE a0 aR aF aG cI vrow vdrawn vtr vled vmov vw1 vw2 (j_X2_begunEnding_S0_veb) vh1 vt1 vp1 vk1 vg1 vh2 vt2 vp2 vk2 vg2 aE aM cM (j_X2_begunEnding_S0_vtab vtab) (j_X2_begunEnding_S0_vfa vh1) (j_X2_begunEnding_S0_vsa vh2) (j_X2_begunEnding_S0_ver vtr)) := by
  refine jW_of (QQ := fun A => (jQa D aE (jCE a0 aR aF aG cI vrow vdrawn vtr vled vmov vw1 vw2 (j_X2_begunEnding_S0_veb) vh1 vt1 vp1 vk1 vg1 vh2 vt2 vp2 vk2 vg2 aE aM cM (j_X2_begunEnding_S0_vtab vtab) (j_X2_begunEnding_S0_vfa vh1) (j_X2_begunEnding_S0_vsa vh2) (j_X2_begunEnding_S0_ver vtr)) [(cI, .int), (cM, .int)] A)) (cc := cX2_begunEnding) (maxL := 1) (ret := (some (.object "ArchivistTricks$Ending"))) (by decide) rfl (Nat.le_of_ble_eq_true rfl) ?_
  intro p e s m below meth c ls A S hr hlocks hini hP hK hN hD hS hA hl
  obtain ⟨hx, hb, hml, hown, hts⟩ := id S
  have hl : lv_has ls 1 [(0, .ref a0)] := hl
  refine lv_aload_n hx hb dX2_begunEnding_0 rfl (lv_at hl 0 rfl) ?_
  refine va_get (D := D) (ci := 2) (v := .ref aE) (C := RX2) (T := TX2) (N := 11) hx hb hts inX2_begunEnding_S0_X2 hown hK hP 0 rfl rfl 9 (by decide) (hts (.fieldLink RX2 42 "ArchivistTricks" "ending" "LArchivistTricks$Ending;") (by decide +kernel)) (fun _ h9 => h9) rfl dX2_begunEnding_1 ?_
  refine lv_ifnonnull (tgt := 18) hx hb dX2_begunEnding_4 (by decide) ?_
  refine lv_aload_n hx hb dX2_begunEnding_18 rfl (lv_at hl 0 rfl) ?_
  refine va_get (D := D) (ci := 2) (v := .int veb) (C := RX2) (T := TX2) (N := 11) hx hb hts inX2_begunEnding_S0_X2 hown hK hP 0 rfl rfl 10 (by decide) (hts (.fieldLink RX2 46 "ArchivistTricks" "endingBegun" "Z") (by decide +kernel)) (fun _ h9 => h9) rfl dX2_begunEnding_19 ?_
  refine lv_if_ne (tgt := 55) hx hb dX2_begunEnding_22 (by decide) (fun c_ => absurd h0 c_) (fun _ => ?_)
  refine lv_aload_n hx hb dX2_begunEnding_25 rfl (lv_at hl 0 rfl) ?_
  refine va_get (D := D) (ci := 2) (v := .ref aE) (C := RX2) (T := TX2) (N := 11) hx hb hts inX2_begunEnding_S0_X2 hown hK hP 0 rfl rfl 9 (by decide) (hts (.fieldLink RX2 42 "ArchivistTricks" "ending" "LArchivistTricks$Ending;") (by decide +kernel)) (fun _ h9 => h9) rfl dX2_begunEnding_26 ?_
  refine lv_aload_n hx hb dX2_begunEnding_29 rfl (lv_at hl 0 rfl) ?_
  refine va_get (D := D) (ci := 2) (v := .ref aF) (C := RX2) (T := TX2) (N := 11) hx hb hts inX2_begunEnding_S0_X2 hown hK hP 0 rfl rfl 1 (by decide) (hts (.fieldLink RX2 16 "ArchivistTricks" "first" "LArchivistTricks$Archivist;") (by decide +kernel)) (fun _ h9 => h9) rfl dX2_begunEnding_30 ?_
  refine va_get (D := D) (ci := 0) (v := .long vh1) (C := RX0) (T := TX0) (N := 5) hx hb hts inX2_begunEnding_S0_X0 hown hK hP 1 rfl rfl 0 (by decide) (hts (.fieldLink RX2 91 "ArchivistTricks$Archivist" "hand" "J") (by decide +kernel)) (fun _ h9 => h9) rfl dX2_begunEnding_33 ?_
  refine lv_aload_n hx hb dX2_begunEnding_36 rfl (lv_at hl 0 rfl) ?_
  refine va_get (D := D) (ci := 2) (v := .ref aG) (C := RX2) (T := TX2) (N := 11) hx hb hts inX2_begunEnding_S0_X2 hown hK hP 0 rfl rfl 2 (by decide) (hts (.fieldLink RX2 20 "ArchivistTricks" "second" "LArchivistTricks$Archivist;") (by decide +kernel)) (fun _ h9 => h9) rfl dX2_begunEnding_37 ?_
  refine va_get (D := D) (ci := 0) (v := .long vh2) (C := RX0) (T := TX0) (N := 5) hx hb hts inX2_begunEnding_S0_X0 hown hK hP 2 rfl rfl 0 (by decide) (hts (.fieldLink RX2 91 "ArchivistTricks$Archivist" "hand" "J") (by decide +kernel)) (fun _ h9 => h9) rfl dX2_begunEnding_40 ?_
  refine lv_aload_n hx hb dX2_begunEnding_43 rfl (lv_at hl 0 rfl) ?_
  refine va_get (D := D) (ci := 2) (v := .int vtr) (C := RX2) (T := TX2) (N := 11) hx hb hts inX2_begunEnding_S0_X2 hown hK hP 0 rfl rfl 4 (by decide) (hts (.fieldLink RX2 27 "ArchivistTricks" "trumpProvenance" "I") (by decide +kernel)) (fun _ h9 => h9) rfl dX2_begunEnding_44 ?_
  refine jw_callVv (n := 3) (C := RX1) (As := [.long vh1, .long vh2, .int vtr]) (rest := []) (wr := [(a0, .inr (2, [.ref aR, .ref aF, .ref aG, .int vdrawn, .int vtr, .int vled, .int vmov, .int vw1, .int vw2, .ref aE, .int veb])), (aF, .inr (0, [.long vh1, .long vt1, .int vp1, .int vk1, .int vg1])), (aG, .inr (0, [.long vh2, .long vt2, .int vp2, .int vk2, .int vg2])), (aR, .inl (cI, 42, .inl vrow))]) (wn := [(a0, .inr (2, [.ref aR, .ref aF, .ref aG, .int vdrawn, .int vtr, .int vled, .int vmov, .int vw1, .int vw2, .ref aE, .int veb])), (aF, .inr (0, [.long vh1, .long vt1, .int vp1, .int vk1, .int vg1])), (aG, .inr (0, [.long vh2, .long vt2, .int vp2, .int vk2, .int vg2])), (aR, .inl (cI, 42, .inl vrow)), (aE, .inr (1, [.ref aM, .long (j_X1_begin_vfa vh1), .long (j_X1_begin_vsa vh2), .int (j_X1_begin_vtr vtr)])), (aM, .inl (cM, 8192, .inl (j_X1_begin_vtab vtab)))]) S (c_X1_begin aE aM cM vtab vfa vsa ver vh1 vh2 vtr) gX2_begunEnding_X1_begin rfl (by decide +kernel) rfl ⟨⟨rfl, rfl⟩, ⟨Nat.le_of_ble_eq_true rfl, Nat.le_of_ble_eq_true rfl⟩, Nat.le_of_ble_eq_true rfl, Nat.le_of_ble_eq_true rfl⟩ hP hK hN hD hS hA [4, 5] [0, 1, 2, 3] [0, 1, 2, 3, 4, 5] [1] rfl rfl ⟨rfl, rfl, rfl⟩ (by decide) rfl rfl 0 1 rfl rfl rfl (lv_nil hl) rfl (Nat.le_of_ble_eq_true rfl) dX2_begunEnding_47 (fun H locs hP hD hS => ?_)
  refine lv_aload_n hx hb dX2_begunEnding_50 rfl (lv_at hl 0 rfl) ?_
  refine lv_iconst (v := 1) hx hb dX2_begunEnding_51 (by decide) ?_
  refine va_put (D := D) (ci := 2) (v := .int 1) (ty := .boolean) (C := RX2) (T := TX2) (N := 11) hx hb hts inX2_begunEnding_S0_X2 tyX2 tyX2_ok nmX2 hown hK hP hD hS 0 rfl rfl 10 (by decide) (hts (.fieldLink RX2 46 "ArchivistTricks" "endingBegun" "Z") (by decide +kernel)) (fun _ h9 => h9) rfl (by decide +kernel) rfl rfl (Nat.le_of_ble_eq_true rfl) dX2_begunEnding_52 (fun H locs hP hD hS => ?_)
  have hP : va_P D vwCl [(a0, .inr (2, [.ref aR, .ref aF, .ref aG, .int vdrawn, .int vtr, .int vled, .int vmov, .int vw1, .int vw2, .ref aE, .int 1])), (aF, .inr (0, [.long vh1, .long vt1, .int vp1, .int vk1, .int vg1])), (aG, .inr (0, [.long vh2, .long vt2, .int vp2, .int vk2, .int vg2])), (aR, .inl (cI, 42, .inl vrow)), (aE, .inr (1, [.ref aM, .long (j_X1_begin_vfa vh1), .long (j_X1_begin_vsa vh2), .int (j_X1_begin_vtr vtr)])), (aM, .inl (cM, 8192, .inl (j_X1_begin_vtab vtab)))] H := hP
  have hD : va_D A [(a0, .inr (2, [.ref aR, .ref aF, .ref aG, .int vdrawn, .int vtr, .int vled, .int vmov, .int vw1, .int vw2, .ref aE, .int 1])), (aF, .inr (0, [.long vh1, .long vt1, .int vp1, .int vk1, .int vg1])), (aG, .inr (0, [.long vh2, .long vt2, .int vp2, .int vk2, .int vg2])), (aR, .inl (cI, 42, .inl vrow)), (aE, .inr (1, [.ref aM, .long (j_X1_begin_vfa vh1), .long (j_X1_begin_vsa vh2), .int (j_X1_begin_vtr vtr)])), (aM, .inl (cM, 8192, .inl (j_X1_begin_vtab vtab)))] := hD
  refine lv_aload_n hx hb dX2_begunEnding_55 rfl (lv_at hl 0 rfl) ?_
  refine va_get (D := D) (ci := 2) (v := .ref aE) (C := RX2) (T := TX2) (N := 11) hx hb hts inX2_begunEnding_S0_X2 hown hK hP 0 rfl rfl 9 (by decide) (hts (.fieldLink RX2 42 "ArchivistTricks" "ending" "LArchivistTricks$Ending;") (by decide +kernel)) (fun _ h9 => h9) rfl dX2_begunEnding_56 ?_
  exact jw_aret hx hb hr hlocks hK hP hD hS dX2_begunEnding_59 (by  simp only [j_X2_begunEnding_S0_veb, j_X2_begunEnding_S0_vtab, j_X2_begunEnding_S0_vfa, j_X2_begunEnding_S0_vsa, j_X2_begunEnding_S0_ver, if_pos h0])

