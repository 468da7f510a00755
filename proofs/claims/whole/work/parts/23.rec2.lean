/-! THE RECURSION, from its top (laid by wip/whole/rows.py) -/
set_option maxRecDepth 100000 in
set_option maxHeartbeats 8000000 in
theorem t_margin0 {l : Launch} {D : va_G} {aE aM : Nat} {cM : ClassId} {vfa vsa : Int64} {vtr : Int32} {OK : Nat → Int64 → Int64 → Int32 → Int32 → Prop} {Val : (Nat → Int32) → Prop} : qM l D aE aM cM vfa vsa vtr OK Val 0 := by
  intro x1 x2 x3 x4 x5 tab hok hv0
  have hpos : ¬ 0 < nI 0 := by decide
  refine jW_of (QQ := fun A => jQn D (q_m vtr 0 x1 x2 x3 x4 x5) Val (fun u => jE aE aM cM u vfa vsa vtr) [(cM, .int)] A) (cc := cX1_margin) (maxL := 11) (ret := (some .int)) (by decide) rfl (Nat.le_of_ble_eq_true rfl) ?_
  intro p e s m below meth c ls A S hr hlocks hini hP hK hN hD hS hA hl
  obtain ⟨hx, hb, hml, hown, hts⟩ := id S
  have hl : lv_has ls 11 [(0, .ref aE), (1, .long x1), (3, .long x2), (5, .int x3), (6, .int x4), (7, .int x5), (8, .int (nI 0))] := hl
  refine lv_lload_n hx hb dX1_margin_0 rfl (lv_at hl 1 rfl) ?_
  refine lv_lconst (v := 0) hx hb dX1_margin_1 (by decide) ?_
  refine W.lcmp hx hb dX1_margin_2 ?_
  refine lv_if_eq (tgt := 11) hx hb dX1_margin_3 (by decide) (fun c_1 => ?_) (fun c_1 => ?_)
  · skip
    refine lv_iconst (v := 0) hx hb dX1_margin_11 (by decide) ?_
    exact jn_iret tab hx hb hr hlocks hK hP hD hS dX1_margin_12 hv0 rfl
  · skip
    refine lv_iload hx hb dX1_margin_6 (lv_at hl 6 rfl) ?_
    refine lv_if_gt (tgt := 13) hx hb dX1_margin_8 (by decide) (fun c_ => absurd c_ hpos) (fun _ => ?_)
    refine lv_iconst (v := 0) hx hb dX1_margin_11 (by decide) ?_
    exact jn_iret tab hx hb hr hlocks hK hP hD hS dX1_margin_12 hv0 rfl
theorem t_margins {l : Launch} {D : va_G} {aE aM : Nat} {cM : ClassId} {vfa vsa : Int64} {vtr : Int32} {OK : Nat → Int64 → Int64 → Int32 → Int32 → Prop} {Val : (Nat → Int32) → Prop} (hVr : q_VR vfa vsa vtr OK Val) (hVs : q_VS vfa vsa vtr OK Val) (hCl : ∀ d, d < 1000 → q_CL vtr OK d) : ∀ d, d ≤ 1000 → qM l D aE aM cM vfa vsa vtr OK Val d := by
  intro d
  induction d with
  | zero => intro _; exact t_margin0
  | succ d ih => intro hd; exact t_margin hd (hCl d hd) (t_marginBy (ih (by omega)) (t_rest hVr hVs (ih (by omega))))
theorem t_marginBys {l : Launch} {D : va_G} {aE aM : Nat} {cM : ClassId} {vfa vsa : Int64} {vtr : Int32} {OK : Nat → Int64 → Int64 → Int32 → Int32 → Prop} {Val : (Nat → Int32) → Prop} (hVr : q_VR vfa vsa vtr OK Val) (hVs : q_VS vfa vsa vtr OK Val) (hCl : ∀ d, d < 1000 → q_CL vtr OK d) : ∀ d, d ≤ 1000 → qB l D aE aM cM vfa vsa vtr OK Val d := fun d hd => t_marginBy (t_margins hVr hVs hCl d hd) (t_rest hVr hVs (t_margins hVr hVs hCl d hd))
abbrev rqE : Room := { frames := 60, cells := 0, slots := 0, locals := 2000 }
set_option maxRecDepth 100000 in
set_option maxHeartbeats 8000000 in
theorem t_bestMargin {l : Launch} {D : va_G} {aE aM : Nat} {cM : ClassId} {vfa vsa : Int64} {vtr : Int32} {OK : Nat → Int64 → Int64 → Int32 → Int32 → Prop} {Val : (Nat → Int32) → Prop} (hM : qM l D aE aM cM vfa vsa vtr OK Val 12) (x0 x1 : Int64) (x2 x3 x4 : Int32) (tab : Nat → Int32) (hok : OK 12 x0 x1 x2 x3) (hv0 : Val tab) : jn_Met l yX1_bestMargin wsX1_bestMargin rqE D [.ref aE, .long x0, .long x1, .int x2, .int x3, .int x4] aE aM cM tab vfa vsa vtr (q_m vtr 12 x0 x1 x2 x3 x4) Val := by
  refine jW_of (QQ := fun A => jQn D (q_m vtr 12 x0 x1 x2 x3 x4) Val (fun u => jE aE aM cM u vfa vsa vtr) [(cM, .int)] A) (cc := cX1_bestMargin) (maxL := 8) (ret := (some .int)) (by decide) rfl (Nat.le_of_ble_eq_true rfl) ?_
  intro p e s m below meth c ls A S hr hlocks hini hP hK hN hD hS hA hl
  obtain ⟨hx, hb, hml, hown, hts⟩ := id S
  have hl : lv_has ls 8 [(0, .ref aE), (1, .long x0), (3, .long x1), (5, .int x2), (6, .int x3), (7, .int x4)] := hl
  refine lv_aload_n hx hb dX1_bestMargin_0 rfl (lv_at hl 0 rfl) ?_
  refine lv_lload_n hx hb dX1_bestMargin_1 rfl (lv_at hl 1 rfl) ?_
  refine lv_lload_n hx hb dX1_bestMargin_2 rfl (lv_at hl 2 rfl) ?_
  refine lv_iload hx hb dX1_bestMargin_3 (lv_at hl 3 rfl) ?_
  refine lv_iload hx hb dX1_bestMargin_5 (lv_at hl 4 rfl) ?_
  refine lv_iload hx hb dX1_bestMargin_7 (lv_at hl 5 rfl) ?_
  refine lv_bipush (v := 12) hx hb dX1_bestMargin_9 (by decide) ?_
  refine jn_call (n := 6) (As := [.long x0, .long x1, .int x2, .int x3, .int x4, .int 12]) (rest := []) S (hM x0 x1 x2 x3 x4 tab hok hv0) gX1_bestMargin_X1_margin rfl (by decide +kernel) rfl ⟨⟨rfl, rfl⟩, ⟨(by show 3 * 12 + 6 + 1 ≤ 60; omega), (by show 8 + (11 + 11) + (100 * 12 + 150) ≤ 2000; omega)⟩, Nat.zero_le _, Nat.zero_le _⟩ hP hK hN hD hS hA (lv_nil hl) rfl (Nat.le_of_ble_eq_true rfl) dX1_bestMargin_11 (fun u1 hu1 H locs hP hD hS => ?_)
  exact jn_iret u1 hx hb hr hlocks hK hP hD hS dX1_bestMargin_14 hu1 rfl
def q_low (vtr : Int32) (x1 x2 : Int64) (x3 x4 x5 : Int32) : Nat → Nat → Int32 → Int32 → Int32
  | 0, _, _, b => b
  | n + 1, i, y8, y9 => if j_X1_mayPlay vtr x1 (nI i) x3 = 0 then q_low vtr x1 x2 x3 x4 x5 n (i + 1) y8 y9 else (if q_by vtr (q_m vtr 11) (nI i) x1 x2 x3 x4 x5 ≤ y8 then q_low vtr x1 x2 x3 x4 x5 n (i + 1) y8 y9 else q_low vtr x1 x2 x3 x4 x5 n (i + 1) (q_by vtr (q_m vtr 11) (nI i) x1 x2 x3 x4 x5) (nI i))
set_option maxRecDepth 100000 in
set_option maxHeartbeats 8000000 in
theorem t_lowest {l : Launch} {D : va_G} {aE aM : Nat} {cM : ClassId} {vfa vsa : Int64} {vtr : Int32} {OK : Nat → Int64 → Int64 → Int32 → Int32 → Prop} {Val : (Nat → Int32) → Prop} (hCl : q_CL vtr OK 11) (hB : qB l D aE aM cM vfa vsa vtr OK Val 11) (x1 x2 : Int64) (x3 x4 x5 : Int32) (tab0 : Nat → Int32) (hok : OK 12 x1 x2 x3 x4) (hvt : Val tab0) : jn_Met l yX1_lowestBestCard wsX1_lowestBestCard rqE D [.ref aE, .long x1, .long x2, .int x3, .int x4, .int x5] aE aM cM tab0 vfa vsa vtr (q_low vtr x1 x2 x3 x4 x5 42 0 (-1000) (-1)) Val := by
  have hC := fun i hi (hok : OK (11 + 1) x1 x2 x3 x4) h => hCl x1 x2 x3 x4 i hi hok h
  refine jW_of (QQ := fun A => jQn D (q_low vtr x1 x2 x3 x4 x5 42 0 (-1000) (-1)) Val (fun u => jE aE aM cM u vfa vsa vtr) [(cM, .int)] A) (cc := cX1_lowestBestCard) (maxL := 12) (ret := (some .int)) (by decide) rfl (Nat.le_of_ble_eq_true rfl) ?_
  intro p e s m below meth c ls A S hr hlocks hini hP hK hN hD hS hA hl
  obtain ⟨hx, hb, hml, hown, hts⟩ := id S
  have hl : lv_has ls 12 [(0, .ref aE), (1, .long x1), (3, .long x2), (5, .int x3), (6, .int x4), (7, .int x5)] := hl
  have loop11 : ∀ (n i : Nat) (y8 y9 : Int32) (tab : Nat → Int32), i + n = 42 → Val tab → q_low vtr x1 x2 x3 x4 x5 n i y8 y9 = (q_low vtr x1 x2 x3 x4 x5 42 0 (-1000) (-1)) → ∀ (H : Heap) (locs : List Loc), va_P D vwCl (jE aE aM cM tab vfa vsa vtr) H → va_D A (jE aE aM cM tab vfa vsa vtr) → va_S A s.heap H locs → ∀ (ls : Array Slot), lv_has ls 12 [(10, .int (nI i)), (8, .int y8), (9, .int y9), (0, .ref aE), (1, .long x1), (3, .long x2), (5, .int x3), (6, .int x4), (7, .int x5)] → W p l e rqE s m ([.ref aE, .long x1, .long x2, .int x3, .int x4, .int x5] : List Value).toArray below meth c H locs 0 0 (MQ below (jQn D (q_low vtr x1 x2 x3 x4 x5 42 0 (-1000) (-1)) Val (fun u => jE aE aM cM u vfa vsa vtr) [(cM, .int)] A) ([.ref aE, .long x1, .long x2, .int x3, .int x4, .int x5] : List Value).toArray s 0 0 A) (F0 m 11 ls []) := by
    intro n
    induction n with
    | zero =>
      intro i y8 y9 tab hin hv0 hv H locs hP hD hS ls hl
      have hge : (42 : Int32) ≤ nI i := by rw [show i = 42 by omega]; decide
      refine lv_iload hx hb dX1_lowestBestCard_11 (lv_at hl 0 rfl) ?_
      refine lv_bipush (v := 42) hx hb dX1_lowestBestCard_13 (by decide) ?_
      refine lv_icmp_ge (tgt := 69) hx hb dX1_lowestBestCard_15 (by decide) (fun _ => ?_) (fun c_ => absurd hge c_)
      refine lv_iload hx hb dX1_lowestBestCard_69 (lv_at hl 2 rfl) ?_
      exact jn_iret tab hx hb hr hlocks hK hP hD hS dX1_lowestBestCard_71 hv0 hv
    | succ n ih =>
      intro i y8 y9 tab hin hv0 hv H locs hP hD hS ls hl
      have hge : ¬ (42 : Int32) ≤ nI i := nI_ge (a := i) (b := 42) (by omega) (by decide)
      refine lv_iload hx hb dX1_lowestBestCard_11 (lv_at hl 0 rfl) ?_
      refine lv_bipush (v := 42) hx hb dX1_lowestBestCard_13 (by decide) ?_
      refine lv_icmp_ge (tgt := 69) hx hb dX1_lowestBestCard_15 (by decide) (fun c_ => absurd c_ hge) (fun _ => ?_)
      refine lv_aload_n hx hb dX1_lowestBestCard_18 rfl (lv_at hl 3 rfl) ?_
      refine lv_lload_n hx hb dX1_lowestBestCard_19 rfl (lv_at hl 4 rfl) ?_
      refine lv_iload hx hb dX1_lowestBestCard_20 (lv_at hl 0 rfl) ?_
      refine lv_iload hx hb dX1_lowestBestCard_22 (lv_at hl 6 rfl) ?_
      refine jr_callV (n := 3) (C := RX1) (As := [.long x1, .int (nI i), .int x3]) (rest := []) S (c_X1_mayPlay aE aM cM tab vfa vsa vtr x1 (nI i) x3) gX1_lowestBestCard_X1_mayPlay rfl (by decide +kernel) rfl ⟨⟨rfl, rfl⟩, ⟨(by show 3 ≤ 60; omega), (by show 75 ≤ 2000; omega)⟩, Nat.zero_le _, Nat.zero_le _⟩ hP hK hN [0, 1] [0] rfl rfl 0 1 rfl rfl rfl (lv_nil hl) rfl (Nat.le_of_ble_eq_true rfl) dX1_lowestBestCard_24 ?_
      refine lv_if_eq (tgt := 63) hx hb dX1_lowestBestCard_27 (by decide) (fun c_101 => ?_) (fun c_101 => ?_)
      · skip
        refine lv_iinc (v := nI (i + 1)) (lv' := [(10, .int (nI (i + 1))), (8, .int y8), (9, .int y9), (0, .ref aE), (1, .long x1), (3, .long x2), (5, .int x3), (6, .int x4), (7, .int x5)]) hx hb dX1_lowestBestCard_63 hl (k := 0) rfl (nI_1 i) (by decide) rfl (fun ls hl => ?_)
        refine lv_goto (tgt := 11) hx hb dX1_lowestBestCard_66 (by decide) ?_
        exact ih (i + 1) y8 y9 tab (by omega) hv0 (by rw [← hv]; simp only [q_low, if_neg hge, if_pos c_101]) _ _ hP hD hS ls (lv_sub hl [0, 1, 2, 3, 4, 5, 6, 7, 8] rfl)
      · skip
        refine lv_aload_n hx hb dX1_lowestBestCard_30 rfl (lv_at hl 3 rfl) ?_
        refine lv_iload hx hb dX1_lowestBestCard_31 (lv_at hl 0 rfl) ?_
        refine lv_lload_n hx hb dX1_lowestBestCard_33 rfl (lv_at hl 4 rfl) ?_
        refine lv_lload_n hx hb dX1_lowestBestCard_34 rfl (lv_at hl 5 rfl) ?_
        refine lv_iload hx hb dX1_lowestBestCard_35 (lv_at hl 6 rfl) ?_
        refine lv_iload hx hb dX1_lowestBestCard_37 (lv_at hl 7 rfl) ?_
        refine lv_iload hx hb dX1_lowestBestCard_39 (lv_at hl 8 rfl) ?_
        refine lv_bipush (v := 12) hx hb dX1_lowestBestCard_41 (by decide) ?_
        refine jn_call (n := 7) (As := [.int (nI i), .long x1, .long x2, .int x3, .int x4, .int x5, .int 12]) (rest := []) S (hB (nI i) x1 x2 x3 x4 x5 tab (hC i (by omega) hok c_101).1 (hC i (by omega) hok c_101).2.1 (hC i (by omega) hok c_101).2.2 hv0) gX1_lowestBestCard_X1_marginBy rfl (by decide +kernel) rfl ⟨⟨rfl, rfl⟩, ⟨(by show 3 * (11 + 1) + 5 + 1 ≤ 60; omega), (by show 8 + (13 + 11) + (100 * (11 + 1) + 118) ≤ 2000; omega)⟩, Nat.zero_le _, Nat.zero_le _⟩ hP hK hN hD hS hA (lv_nil hl) rfl (Nat.le_of_ble_eq_true rfl) dX1_lowestBestCard_43 (fun u1 hu1 H locs hP hD hS => ?_)
        refine lv_istore (lv' := [(11, .int (q_by vtr (q_m vtr 11) (nI i) x1 x2 x3 x4 x5)), (10, .int (nI i)), (8, .int y8), (9, .int y9), (0, .ref aE), (1, .long x1), (3, .long x2), (5, .int x3), (6, .int x4), (7, .int x5)]) hx hb dX1_lowestBestCard_46 hl (by decide) rfl (fun ls hl => ?_)
        refine lv_iload hx hb dX1_lowestBestCard_48 (lv_at hl 0 rfl) ?_
        refine lv_iload hx hb dX1_lowestBestCard_50 (lv_at hl 2 rfl) ?_
        refine lv_icmp_le (tgt := 63) hx hb dX1_lowestBestCard_52 (by decide) (fun c_102 => ?_) (fun c_102 => ?_)
        · skip
          refine lv_iinc (v := nI (i + 1)) (lv' := [(10, .int (nI (i + 1))), (11, .int (q_by vtr (q_m vtr 11) (nI i) x1 x2 x3 x4 x5)), (8, .int y8), (9, .int y9), (0, .ref aE), (1, .long x1), (3, .long x2), (5, .int x3), (6, .int x4), (7, .int x5)]) hx hb dX1_lowestBestCard_63 hl (k := 1) rfl (nI_1 i) (by decide) rfl (fun ls hl => ?_)
          refine lv_goto (tgt := 11) hx hb dX1_lowestBestCard_66 (by decide) ?_
          exact ih (i + 1) y8 y9 u1 (by omega) hu1 (by rw [← hv]; simp only [q_low, if_neg hge, if_neg c_101, if_pos c_102]) _ _ hP hD hS ls (lv_sub hl [0, 2, 3, 4, 5, 6, 7, 8, 9] rfl)
        · skip
          refine lv_iload hx hb dX1_lowestBestCard_55 (lv_at hl 0 rfl) ?_
          refine lv_istore (lv' := [(8, .int (q_by vtr (q_m vtr 11) (nI i) x1 x2 x3 x4 x5)), (11, .int (q_by vtr (q_m vtr 11) (nI i) x1 x2 x3 x4 x5)), (10, .int (nI i)), (9, .int y9), (0, .ref aE), (1, .long x1), (3, .long x2), (5, .int x3), (6, .int x4), (7, .int x5)]) hx hb dX1_lowestBestCard_57 hl (by decide) rfl (fun ls hl => ?_)
          refine lv_iload hx hb dX1_lowestBestCard_59 (lv_at hl 2 rfl) ?_
          refine lv_istore (lv' := [(9, .int (nI i)), (8, .int (q_by vtr (q_m vtr 11) (nI i) x1 x2 x3 x4 x5)), (11, .int (q_by vtr (q_m vtr 11) (nI i) x1 x2 x3 x4 x5)), (10, .int (nI i)), (0, .ref aE), (1, .long x1), (3, .long x2), (5, .int x3), (6, .int x4), (7, .int x5)]) hx hb dX1_lowestBestCard_61 hl (by decide) rfl (fun ls hl => ?_)
          refine lv_iinc (v := nI (i + 1)) (lv' := [(10, .int (nI (i + 1))), (9, .int (nI i)), (8, .int (q_by vtr (q_m vtr 11) (nI i) x1 x2 x3 x4 x5)), (11, .int (q_by vtr (q_m vtr 11) (nI i) x1 x2 x3 x4 x5)), (0, .ref aE), (1, .long x1), (3, .long x2), (5, .int x3), (6, .int x4), (7, .int x5)]) hx hb dX1_lowestBestCard_63 hl (k := 3) rfl (nI_1 i) (by decide) rfl (fun ls hl => ?_)
          refine lv_goto (tgt := 11) hx hb dX1_lowestBestCard_66 (by decide) ?_
          exact ih (i + 1) (q_by vtr (q_m vtr 11) (nI i) x1 x2 x3 x4 x5) (nI i) u1 (by omega) hu1 (by rw [← hv]; simp only [q_low, if_neg hge, if_neg c_101, if_neg c_102]) _ _ hP hD hS ls (lv_sub hl [0, 2, 1, 4, 5, 6, 7, 8, 9] rfl)
  refine lv_sipush (v := (-1000)) hx hb dX1_lowestBestCard_0 (by decide) ?_
  refine lv_istore (lv' := [(8, .int (-1000)), (0, .ref aE), (1, .long x1), (3, .long x2), (5, .int x3), (6, .int x4), (7, .int x5)]) hx hb dX1_lowestBestCard_3 hl (by decide) rfl (fun ls hl => ?_)
  refine lv_iconst (v := (-1)) hx hb dX1_lowestBestCard_5 (by decide) ?_
  refine lv_istore (lv' := [(9, .int (-1)), (8, .int (-1000)), (0, .ref aE), (1, .long x1), (3, .long x2), (5, .int x3), (6, .int x4), (7, .int x5)]) hx hb dX1_lowestBestCard_6 hl (by decide) rfl (fun ls hl => ?_)
  refine lv_iconst (v := 0) hx hb dX1_lowestBestCard_8 (by decide) ?_
  refine lv_istore (lv' := [(10, .int 0), (9, .int (-1)), (8, .int (-1000)), (0, .ref aE), (1, .long x1), (3, .long x2), (5, .int x3), (6, .int x4), (7, .int x5)]) hx hb dX1_lowestBestCard_9 hl (by decide) rfl (fun ls hl => ?_)
  exact loop11 42 0 (-1000) (-1) tab0 rfl hvt rfl _ _ hP hD hS ls (lv_sub (l' := [(10, .int (nI 0)), (8, .int (-1000)), (9, .int (-1)), (0, .ref aE), (1, .long x1), (3, .long x2), (5, .int x3), (6, .int x4), (7, .int x5)]) hl [0, 2, 1, 3, 4, 5, 6, 7, 8] rfl)
