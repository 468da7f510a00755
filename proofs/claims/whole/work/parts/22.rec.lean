/-! THE RECURSION (laid by wip/whole/rows.py) -/
theorem inq_marginBy_X1 : ∀ w ∈ u_ws RX1 TX1 4, w ∈ wsX1_marginBy := by decide +kernel
set_option maxRecDepth 100000 in
set_option maxHeartbeats 8000000 in
theorem t_marginBy {l : Launch} {D : va_G} {aE aM : Nat} {cM : ClassId} {vfa vsa : Int64} {vtr : Int32} {OK : Nat → Int64 → Int64 → Int32 → Int32 → Prop} {Val : (Nat → Int32) → Prop} {d : Nat} (hM : qM l D aE aM cM vfa vsa vtr OK Val d) (hRr : qR l D aE aM cM vfa vsa vtr OK Val d) : qB l D aE aM cM vfa vsa vtr OK Val d := by
  intro x0 x1 x2 x3 x4 x5 tab h1 h2 h3 hv0
  refine jW_of (QQ := fun A => jQn D (q_by vtr (q_m vtr d) x0 x1 x2 x3 x4 x5) Val (fun u => jE aE aM cM u vfa vsa vtr) [(cM, .int)] A) (cc := cX1_marginBy) (maxL := 13) (ret := (some .int)) (by decide) rfl (Nat.le_of_ble_eq_true rfl) ?_
  intro p e s m below meth c ls A S hr hlocks hini hP hK hN hD hS hA hl
  obtain ⟨hx, hb, hml, hown, hts⟩ := id S
  have hl : lv_has ls 13 [(0, .ref aE), (1, .int x0), (2, .long x1), (4, .long x2), (6, .int x3), (7, .int x4), (8, .int x5), (9, .int (nI (d + 1)))] := hl
  refine lv_lload_n hx hb dX1_marginBy_0 rfl (lv_at hl 2 rfl) ?_
  refine lv_iload_n hx hb dX1_marginBy_1 rfl (lv_at hl 1 rfl) ?_
  refine jr_callSN (n := 1) (As := [.int x0]) (rest := [.long x1]) S (c_X2_bit x0) gX1_marginBy_X2_bit_n50 rfl hN.1 (hts (.initialized RX2) (by decide +kernel)) (hts (.static yX2_bit) (by decide +kernel)) (by decide +kernel) rfl ⟨⟨rfl, rfl⟩, ⟨(by show 1 ≤ 3 * (d + 1) + 5; omega), (by show 20 ≤ 100 * (d + 1) + 118; omega)⟩, Nat.zero_le _, Nat.zero_le _⟩ hP hK hN [] [] rfl rfl (lv_nil hl) rfl (Nat.le_of_ble_eq_true rfl) dX1_marginBy_2 ?_
  refine lv_ldc2 (v := (-1)) hx hb hown (hts (.constantLong RX1 54 (-1)) (by decide +kernel)) dX1_marginBy_5 ?_
  refine lv_lxor hx hb dX1_marginBy_8 ?_
  refine lv_land hx hb dX1_marginBy_9 ?_
  refine lv_lstore (lv' := [(10, .long (x1 &&& ((j_X2_bit x0) ^^^ (-1)))), (0, .ref aE), (1, .int x0), (2, .long x1), (4, .long x2), (6, .int x3), (7, .int x4), (8, .int x5), (9, .int (nI (d + 1)))]) hx hb dX1_marginBy_10 hl (by decide) rfl (fun ls hl => ?_)
  refine lv_iload hx hb dX1_marginBy_12 (lv_at hl 5 rfl) ?_
  refine lv_iconst (v := (-1)) hx hb dX1_marginBy_14 (by decide) ?_
  refine lv_icmp_ne (tgt := 39) hx hb dX1_marginBy_15 (by decide) (fun c_1 => ?_) (fun c_1 => ?_)
  · skip
    refine lv_iload_n hx hb dX1_marginBy_39 rfl (lv_at hl 2 rfl) ?_
    refine lv_iload hx hb dX1_marginBy_40 (lv_at hl 5 rfl) ?_
    refine lv_aload_n hx hb dX1_marginBy_42 rfl (lv_at hl 1 rfl) ?_
    refine va_get (D := D) (ci := 1) (v := .int vtr) (C := RX1) (T := TX1) (N := 4) hx hb hts inq_marginBy_X1 hown hK hP 0 rfl rfl 3 (by decide) (hts (.fieldLink RX1 22 "ArchivistTricks$Ending" "trump" "I") (by decide +kernel)) (fun _ h9 => h9) rfl dX1_marginBy_43 ?_
    refine jr_callSN (n := 3) (As := [.int x0, .int x3, .int vtr]) (rest := []) S (c_X2_beats x0 x3 vtr) gX1_marginBy_X2_beats_n56 rfl hN.2.1 (hts (.initialized RX2) (by decide +kernel)) (hts (.static yX2_beats) (by decide +kernel)) (by decide +kernel) rfl ⟨⟨rfl, rfl⟩, ⟨(by show 2 ≤ 3 * (d + 1) + 5; omega), (by show 42 ≤ 100 * (d + 1) + 118; omega)⟩, Nat.zero_le _, Nat.zero_le _⟩ hP hK hN [] [] rfl rfl (lv_nil hl) rfl (Nat.le_of_ble_eq_true rfl) dX1_marginBy_46 ?_
    refine lv_if_eq (tgt := 78) hx hb dX1_marginBy_49 (by decide) (fun c_2 => ?_) (fun c_2 => ?_)
    · skip
      refine lv_iconst (v := 1) hx hb dX1_marginBy_78 (by decide) ?_
      refine lv_iload hx hb dX1_marginBy_79 (lv_at hl 6 rfl) ?_
      refine lv_isub hx hb dX1_marginBy_81 ?_
      refine lv_istore (lv' := [(12, .int (1 - x4)), (10, .long (x1 &&& ((j_X2_bit x0) ^^^ (-1)))), (0, .ref aE), (1, .int x0), (2, .long x1), (4, .long x2), (6, .int x3), (7, .int x4), (8, .int x5), (9, .int (nI (d + 1)))]) hx hb dX1_marginBy_82 hl (by decide) rfl (fun ls hl => ?_)
      refine lv_iload hx hb dX1_marginBy_84 (lv_at hl 6 rfl) ?_
      refine lv_iload_n hx hb dX1_marginBy_86 rfl (lv_at hl 3 rfl) ?_
      refine lv_iload hx hb dX1_marginBy_87 (lv_at hl 0 rfl) ?_
      refine lv_iload hx hb dX1_marginBy_89 (lv_at hl 8 rfl) ?_
      refine jr_callS (n := 4) (As := [.int x3, .int x0, .int (1 - x4), .int x5]) (rest := []) S (c_X1_trickWorth x3 x0 (1 - x4) x5) gX1_marginBy_X1_trickWorth rfl (by decide +kernel) rfl ⟨⟨rfl, rfl⟩, ⟨(by show 3 ≤ 3 * (d + 1) + 5; omega), (by show 65 ≤ 100 * (d + 1) + 118; omega)⟩, Nat.zero_le _, Nat.zero_le _⟩ hP hK hN [] [] rfl rfl (lv_nil hl) rfl (Nat.le_of_ble_eq_true rfl) dX1_marginBy_91 ?_
      refine lv_ineg hx hb dX1_marginBy_94 ?_
      refine lv_aload_n hx hb dX1_marginBy_95 rfl (lv_at hl 2 rfl) ?_
      refine lv_lload hx hb dX1_marginBy_96 (lv_at hl 5 rfl) ?_
      refine lv_lload hx hb dX1_marginBy_98 (lv_at hl 1 rfl) ?_
      refine lv_iload hx hb dX1_marginBy_100 (lv_at hl 0 rfl) ?_
      refine lv_iload hx hb dX1_marginBy_102 (lv_at hl 9 rfl) ?_
      refine lv_iconst (v := 1) hx hb dX1_marginBy_104 (by decide) ?_
      refine lv_isub hx hb dX1_marginBy_105 ?_
      rw [nI_pred]
      refine jn_call (n := 4) (As := [.long x2, .long (x1 &&& ((j_X2_bit x0) ^^^ (-1))), .int (1 - x4), .int (nI d)]) (rest := [.int (-(j_X1_trickWorth x3 x0 (1 - x4) x5))]) S (hRr x2 (x1 &&& ((j_X2_bit x0) ^^^ (-1))) (1 - x4) tab (h3 c_1) hv0) gX1_marginBy_X1_rest rfl (by decide +kernel) rfl ⟨⟨rfl, rfl⟩, ⟨(by show 3 * d + 7 + 1 ≤ 3 * (d + 1) + 5; omega), (by show 8 + (10 + 11) + (100 * d + 189) ≤ 100 * (d + 1) + 118; omega)⟩, Nat.zero_le _, Nat.zero_le _⟩ hP hK hN hD hS hA (lv_nil hl) rfl (Nat.le_of_ble_eq_true rfl) dX1_marginBy_106 (fun u1 hu1 H locs hP hD hS => ?_)
      refine lv_isub hx hb dX1_marginBy_109 ?_
      exact jn_iret u1 hx hb hr hlocks hK hP hD hS dX1_marginBy_110 hu1 (by simp only [q_by, if_neg c_1, if_pos c_2])
    · skip
      refine lv_iload hx hb dX1_marginBy_52 (lv_at hl 5 rfl) ?_
      refine lv_iload_n hx hb dX1_marginBy_54 rfl (lv_at hl 2 rfl) ?_
      refine lv_iload hx hb dX1_marginBy_55 (lv_at hl 6 rfl) ?_
      refine lv_iload hx hb dX1_marginBy_57 (lv_at hl 7 rfl) ?_
      refine jr_callS (n := 4) (As := [.int x3, .int x0, .int x4, .int x5]) (rest := []) S (c_X1_trickWorth x3 x0 x4 x5) gX1_marginBy_X1_trickWorth rfl (by decide +kernel) rfl ⟨⟨rfl, rfl⟩, ⟨(by show 3 ≤ 3 * (d + 1) + 5; omega), (by show 65 ≤ 100 * (d + 1) + 118; omega)⟩, Nat.zero_le _, Nat.zero_le _⟩ hP hK hN [] [] rfl rfl (lv_nil hl) rfl (Nat.le_of_ble_eq_true rfl) dX1_marginBy_59 ?_
      refine lv_aload_n hx hb dX1_marginBy_62 rfl (lv_at hl 1 rfl) ?_
      refine lv_lload hx hb dX1_marginBy_63 (lv_at hl 0 rfl) ?_
      refine lv_lload hx hb dX1_marginBy_65 (lv_at hl 4 rfl) ?_
      refine lv_iload hx hb dX1_marginBy_67 (lv_at hl 6 rfl) ?_
      refine lv_iload hx hb dX1_marginBy_69 (lv_at hl 8 rfl) ?_
      refine lv_iconst (v := 1) hx hb dX1_marginBy_71 (by decide) ?_
      refine lv_isub hx hb dX1_marginBy_72 ?_
      rw [nI_pred]
      refine jn_call (n := 4) (As := [.long (x1 &&& ((j_X2_bit x0) ^^^ (-1))), .long x2, .int x4, .int (nI d)]) (rest := [.int (j_X1_trickWorth x3 x0 x4 x5)]) S (hRr (x1 &&& ((j_X2_bit x0) ^^^ (-1))) x2 x4 tab (h2 c_1) hv0) gX1_marginBy_X1_rest rfl (by decide +kernel) rfl ⟨⟨rfl, rfl⟩, ⟨(by show 3 * d + 7 + 1 ≤ 3 * (d + 1) + 5; omega), (by show 8 + (10 + 11) + (100 * d + 189) ≤ 100 * (d + 1) + 118; omega)⟩, Nat.zero_le _, Nat.zero_le _⟩ hP hK hN hD hS hA (lv_nil hl) rfl (Nat.le_of_ble_eq_true rfl) dX1_marginBy_73 (fun u2 hu2 H locs hP hD hS => ?_)
      refine lv_iadd hx hb dX1_marginBy_76 ?_
      exact jn_iret u2 hx hb hr hlocks hK hP hD hS dX1_marginBy_77 hu2 (by simp only [q_by, if_neg c_1, if_neg c_2])
  · skip
    refine lv_aload_n hx hb dX1_marginBy_18 rfl (lv_at hl 1 rfl) ?_
    refine lv_lload hx hb dX1_marginBy_19 (lv_at hl 4 rfl) ?_
    refine lv_lload hx hb dX1_marginBy_21 (lv_at hl 0 rfl) ?_
    refine lv_iload_n hx hb dX1_marginBy_23 rfl (lv_at hl 2 rfl) ?_
    refine lv_iconst (v := 1) hx hb dX1_marginBy_24 (by decide) ?_
    refine lv_iload hx hb dX1_marginBy_25 (lv_at hl 6 rfl) ?_
    refine lv_isub hx hb dX1_marginBy_27 ?_
    refine lv_iload hx hb dX1_marginBy_28 (lv_at hl 7 rfl) ?_
    refine lv_iload hx hb dX1_marginBy_30 (lv_at hl 8 rfl) ?_
    refine lv_iconst (v := 1) hx hb dX1_marginBy_32 (by decide) ?_
    refine lv_isub hx hb dX1_marginBy_33 ?_
    rw [nI_pred]
    refine jn_call (n := 6) (As := [.long x2, .long (x1 &&& ((j_X2_bit x0) ^^^ (-1))), .int x0, .int (1 - x4), .int x5, .int (nI d)]) (rest := []) S (hM x2 (x1 &&& ((j_X2_bit x0) ^^^ (-1))) x0 (1 - x4) x5 tab (h1 c_1) hv0) gX1_marginBy_X1_margin rfl (by decide +kernel) rfl ⟨⟨rfl, rfl⟩, ⟨(by show 3 * d + 6 + 1 ≤ 3 * (d + 1) + 5; omega), (by show 8 + (11 + 11) + (100 * d + 150) ≤ 100 * (d + 1) + 118; omega)⟩, Nat.zero_le _, Nat.zero_le _⟩ hP hK hN hD hS hA (lv_nil hl) rfl (Nat.le_of_ble_eq_true rfl) dX1_marginBy_34 (fun u3 hu3 H locs hP hD hS => ?_)
    refine lv_ineg hx hb dX1_marginBy_37 ?_
    exact jn_iret u3 hx hb hr hlocks hK hP hD hS dX1_marginBy_38 hu3 (by simp only [q_by, if_pos c_1])
/-- what the table says of hands that may come -/
abbrev q_VR (vfa vsa : Int64) (vtr : Int32) (OK : Nat → Int64 → Int64 → Int32 → Int32 → Prop) (Val : (Nat → Int32) → Prop) : Prop := ∀ (tab : Nat → Int32) (d : Nat) (x0 x1 : Int64) (x2 : Int32), Val tab → OK d x0 x1 (-1) x2 → vp_in (q_st vfa vsa x0 x1 x2) 8192 ∧ (tab (q_st vfa vsa x0 x1 x2).toNatClampNeg = 1000 ∨ tab (q_st vfa vsa x0 x1 x2).toNatClampNeg = q_m vtr d x0 x1 (-1) x2 0)
abbrev q_VS (vfa vsa : Int64) (vtr : Int32) (OK : Nat → Int64 → Int64 → Int32 → Int32 → Prop) (Val : (Nat → Int32) → Prop) : Prop := ∀ (tab : Nat → Int32) (d : Nat) (x0 x1 : Int64) (x2 : Int32), Val tab → OK d x0 x1 (-1) x2 → Val (upd tab (q_st vfa vsa x0 x1 x2).toNatClampNeg (q_m vtr d x0 x1 (-1) x2 0))
theorem q_vrT {vfa vsa : Int64} {vtr : Int32} {OK : Nat → Int64 → Int64 → Int32 → Int32 → Prop} {Val : (Nat → Int32) → Prop} {tab : Nat → Int32} {d : Nat} {x0 x1 : Int64} {x2 : Int32} (h : x2 = 0) (hVr : q_VR vfa vsa vtr OK Val) (hv0 : Val tab) (hok : OK d x0 x1 (-1) x2) : ¬ j_X1_stateOf vfa vsa x0 x1 x2 < 0 ∧ j_X1_stateOf vfa vsa x0 x1 x2 < 8192 ∧ (tab (j_X1_stateOf vfa vsa x0 x1 x2).toNatClampNeg = 1000 ∨ tab (j_X1_stateOf vfa vsa x0 x1 x2).toNatClampNeg = q_m vtr d x0 x1 (-1) x2 0) := by
  have e : q_st vfa vsa x0 x1 x2 = j_X1_stateOf vfa vsa x0 x1 x2 := by rw [q_st, if_pos h]
  have q := hVr tab d x0 x1 x2 hv0 hok
  rw [e] at q
  exact ⟨(jx_vp q.1).1, (jx_vp q.1).2, q.2⟩
theorem q_viT {vfa vsa : Int64} {vtr : Int32} {OK : Nat → Int64 → Int64 → Int32 → Int32 → Prop} {Val : (Nat → Int32) → Prop} {tab : Nat → Int32} {d : Nat} {x0 x1 : Int64} {x2 : Int32} (h : x2 = 0) (hVr : q_VR vfa vsa vtr OK Val) (hv0 : Val tab) (hok : OK d x0 x1 (-1) x2) : vp_in (j_X1_stateOf vfa vsa x0 x1 x2) 8192 := by
  have e : q_st vfa vsa x0 x1 x2 = j_X1_stateOf vfa vsa x0 x1 x2 := by rw [q_st, if_pos h]
  have q := hVr tab d x0 x1 x2 hv0 hok
  rw [e] at q
  exact q.1
theorem q_vsT {vfa vsa : Int64} {vtr : Int32} {OK : Nat → Int64 → Int64 → Int32 → Int32 → Prop} {Val : (Nat → Int32) → Prop} {tab : Nat → Int32} {d : Nat} {x0 x1 : Int64} {x2 : Int32} (h : x2 = 0) (hVs : q_VS vfa vsa vtr OK Val) (hv0 : Val tab) (hok : OK d x0 x1 (-1) x2) : Val (upd tab (j_X1_stateOf vfa vsa x0 x1 x2).toNatClampNeg (q_m vtr d x0 x1 (-1) x2 0)) := by
  have e : q_st vfa vsa x0 x1 x2 = j_X1_stateOf vfa vsa x0 x1 x2 := by rw [q_st, if_pos h]
  have q := hVs tab d x0 x1 x2 hv0 hok
  rw [e] at q
  exact q
theorem q_vrF {vfa vsa : Int64} {vtr : Int32} {OK : Nat → Int64 → Int64 → Int32 → Int32 → Prop} {Val : (Nat → Int32) → Prop} {tab : Nat → Int32} {d : Nat} {x0 x1 : Int64} {x2 : Int32} (h : ¬ x2 = 0) (hVr : q_VR vfa vsa vtr OK Val) (hv0 : Val tab) (hok : OK d x0 x1 (-1) x2) : ¬ j_X1_stateOf vfa vsa x1 x0 x2 < 0 ∧ j_X1_stateOf vfa vsa x1 x0 x2 < 8192 ∧ (tab (j_X1_stateOf vfa vsa x1 x0 x2).toNatClampNeg = 1000 ∨ tab (j_X1_stateOf vfa vsa x1 x0 x2).toNatClampNeg = q_m vtr d x0 x1 (-1) x2 0) := by
  have e : q_st vfa vsa x0 x1 x2 = j_X1_stateOf vfa vsa x1 x0 x2 := by rw [q_st, if_neg h]
  have q := hVr tab d x0 x1 x2 hv0 hok
  rw [e] at q
  exact ⟨(jx_vp q.1).1, (jx_vp q.1).2, q.2⟩
theorem q_viF {vfa vsa : Int64} {vtr : Int32} {OK : Nat → Int64 → Int64 → Int32 → Int32 → Prop} {Val : (Nat → Int32) → Prop} {tab : Nat → Int32} {d : Nat} {x0 x1 : Int64} {x2 : Int32} (h : ¬ x2 = 0) (hVr : q_VR vfa vsa vtr OK Val) (hv0 : Val tab) (hok : OK d x0 x1 (-1) x2) : vp_in (j_X1_stateOf vfa vsa x1 x0 x2) 8192 := by
  have e : q_st vfa vsa x0 x1 x2 = j_X1_stateOf vfa vsa x1 x0 x2 := by rw [q_st, if_neg h]
  have q := hVr tab d x0 x1 x2 hv0 hok
  rw [e] at q
  exact q.1
theorem q_vsF {vfa vsa : Int64} {vtr : Int32} {OK : Nat → Int64 → Int64 → Int32 → Int32 → Prop} {Val : (Nat → Int32) → Prop} {tab : Nat → Int32} {d : Nat} {x0 x1 : Int64} {x2 : Int32} (h : ¬ x2 = 0) (hVs : q_VS vfa vsa vtr OK Val) (hv0 : Val tab) (hok : OK d x0 x1 (-1) x2) : Val (upd tab (j_X1_stateOf vfa vsa x1 x0 x2).toNatClampNeg (q_m vtr d x0 x1 (-1) x2 0)) := by
  have e : q_st vfa vsa x0 x1 x2 = j_X1_stateOf vfa vsa x1 x0 x2 := by rw [q_st, if_neg h]
  have q := hVs tab d x0 x1 x2 hv0 hok
  rw [e] at q
  exact q
theorem inq_rest_X1 : ∀ w ∈ u_ws RX1 TX1 4, w ∈ wsX1_rest := by decide +kernel
set_option maxRecDepth 100000 in
set_option maxHeartbeats 8000000 in
theorem t_rest {l : Launch} {D : va_G} {aE aM : Nat} {cM : ClassId} {vfa vsa : Int64} {vtr : Int32} {OK : Nat → Int64 → Int64 → Int32 → Int32 → Prop} {Val : (Nat → Int32) → Prop} {d : Nat} (hVr : q_VR vfa vsa vtr OK Val) (hVs : q_VS vfa vsa vtr OK Val) (hM : qM l D aE aM cM vfa vsa vtr OK Val d) : qR l D aE aM cM vfa vsa vtr OK Val d := by
  intro x0 x1 x2 tab hok hv0
  refine jW_of (QQ := fun A => jQn D (q_m vtr d x0 x1 (-1) x2 0) Val (fun u => jE aE aM cM u vfa vsa vtr) [(cM, .int)] A) (cc := cX1_rest) (maxL := 10) (ret := (some .int)) (by decide) rfl (Nat.le_of_ble_eq_true rfl) ?_
  intro p e s m below meth c ls A S hr hlocks hini hP hK hN hD hS hA hl
  obtain ⟨hx, hb, hml, hown, hts⟩ := id S
  have hl : lv_has ls 10 [(0, .ref aE), (1, .long x0), (3, .long x1), (5, .int x2), (6, .int (nI d))] := hl
  refine lv_iload hx hb dX1_rest_0 (lv_at hl 3 rfl) ?_
  refine lv_if_ne (tgt := 16) hx hb dX1_rest_2 (by decide) (fun c_1 => ?_) (fun c_1 => ?_)
  · skip
    refine lv_aload_n hx hb dX1_rest_16 rfl (lv_at hl 0 rfl) ?_
    refine lv_lload_n hx hb dX1_rest_17 rfl (lv_at hl 2 rfl) ?_
    refine lv_lload_n hx hb dX1_rest_18 rfl (lv_at hl 1 rfl) ?_
    refine lv_iload hx hb dX1_rest_19 (lv_at hl 3 rfl) ?_
    refine jr_callV (n := 3) (C := RX1) (As := [.long x1, .long x0, .int x2]) (rest := []) S (c_X1_stateOf aE aM cM tab vfa vsa vtr x1 x0 x2) gX1_rest_X1_stateOf rfl (by decide +kernel) rfl ⟨⟨rfl, rfl⟩, ⟨(by show 2 ≤ 3 * d + 7; omega), (by show 56 ≤ 100 * d + 189; omega)⟩, Nat.zero_le _, Nat.zero_le _⟩ hP hK hN [0, 1] [0] rfl rfl 0 1 rfl rfl rfl (lv_nil hl) rfl (Nat.le_of_ble_eq_true rfl) dX1_rest_21 ?_
    refine lv_istore (lv' := [(7, .int (j_X1_stateOf vfa vsa x1 x0 x2)), (0, .ref aE), (1, .long x0), (3, .long x1), (5, .int x2), (6, .int (nI d))]) hx hb dX1_rest_24 hl (by decide) rfl (fun ls hl => ?_)
    refine lv_iload hx hb dX1_rest_26 (lv_at hl 0 rfl) ?_
    refine lv_if_lt (tgt := 41) hx hb dX1_rest_28 (by decide) (fun c_ => absurd c_ (q_vrF c_1 hVr hv0 hok).1) (fun _ => ?_)
    refine lv_iload hx hb dX1_rest_31 (lv_at hl 0 rfl) ?_
    refine lv_aload_n hx hb dX1_rest_33 rfl (lv_at hl 1 rfl) ?_
    refine va_get (D := D) (ci := 1) (v := .ref aM) (C := RX1) (T := TX1) (N := 4) hx hb hts inq_rest_X1 hown hK hP 0 rfl rfl 0 (by decide) (hts (.fieldLink RX1 9 "ArchivistTricks$Ending" "margins" "[I") (by decide +kernel)) (fun _ h9 => h9) rfl dX1_rest_34 ?_
    refine va_alen hx hb hK hP 1 0 rfl rfl (v := 8192) rfl dX1_rest_37 ?_
    refine lv_icmp_lt (tgt := 43) hx hb dX1_rest_38 (by decide) (fun _ => ?_) (fun c_ => absurd (q_vrF c_1 hVr hv0 hok).2.1 c_)
    refine lv_aload_n hx hb dX1_rest_43 rfl (lv_at hl 1 rfl) ?_
    refine va_get (D := D) (ci := 1) (v := .ref aM) (C := RX1) (T := TX1) (N := 4) hx hb hts inq_rest_X1 hown hK hP 0 rfl rfl 0 (by decide) (hts (.fieldLink RX1 9 "ArchivistTricks$Ending" "margins" "[I") (by decide +kernel)) (fun _ h9 => h9) rfl dX1_rest_44 ?_
    refine lv_iload hx hb dX1_rest_47 (lv_at hl 0 rfl) ?_
    refine va_iald hx hb hK hP 1 0 rfl rfl (i := j_X1_stateOf vfa vsa x1 x0 x2) (q_viF c_1 hVr hv0 hok) dX1_rest_49 ?_
    refine lv_istore (lv' := [(8, .int (tab (j_X1_stateOf vfa vsa x1 x0 x2).toNatClampNeg)), (7, .int (j_X1_stateOf vfa vsa x1 x0 x2)), (0, .ref aE), (1, .long x0), (3, .long x1), (5, .int x2), (6, .int (nI d))]) hx hb dX1_rest_50 hl (by decide) rfl (fun ls hl => ?_)
    refine lv_iload hx hb dX1_rest_52 (lv_at hl 0 rfl) ?_
    refine lv_sipush (v := 1000) hx hb dX1_rest_54 (by decide) ?_
    refine lv_icmp_eq (tgt := 63) hx hb dX1_rest_57 (by decide) (fun c_2 => ?_) (fun c_2 => ?_)
    · skip
      refine lv_aload_n hx hb dX1_rest_63 rfl (lv_at hl 2 rfl) ?_
      refine lv_lload_n hx hb dX1_rest_64 rfl (lv_at hl 3 rfl) ?_
      refine lv_lload_n hx hb dX1_rest_65 rfl (lv_at hl 4 rfl) ?_
      refine lv_iconst (v := (-1)) hx hb dX1_rest_66 (by decide) ?_
      refine lv_iload hx hb dX1_rest_67 (lv_at hl 5 rfl) ?_
      refine lv_iconst (v := 0) hx hb dX1_rest_69 (by decide) ?_
      refine lv_iload hx hb dX1_rest_70 (lv_at hl 6 rfl) ?_
      refine jn_call (n := 6) (As := [.long x0, .long x1, .int (-1), .int x2, .int 0, .int (nI d)]) (rest := []) S (hM x0 x1 (-1) x2 0 tab hok hv0) gX1_rest_X1_margin rfl (by decide +kernel) rfl ⟨⟨rfl, rfl⟩, ⟨(by show 3 * d + 6 + 1 ≤ 3 * d + 7; omega), (by show 8 + (11 + 11) + (100 * d + 150) ≤ 100 * d + 189; omega)⟩, Nat.zero_le _, Nat.zero_le _⟩ hP hK hN hD hS hA (lv_nil hl) rfl (Nat.le_of_ble_eq_true rfl) dX1_rest_72 (fun u1 hu1 H locs hP hD hS => ?_)
      refine lv_istore (lv' := [(9, .int (q_m vtr d x0 x1 (-1) x2 0)), (8, .int (tab (j_X1_stateOf vfa vsa x1 x0 x2).toNatClampNeg)), (7, .int (j_X1_stateOf vfa vsa x1 x0 x2)), (0, .ref aE), (1, .long x0), (3, .long x1), (5, .int x2), (6, .int (nI d))]) hx hb dX1_rest_75 hl (by decide) rfl (fun ls hl => ?_)
      refine lv_aload_n hx hb dX1_rest_77 rfl (lv_at hl 3 rfl) ?_
      refine va_get (D := D) (ci := 1) (v := .ref aM) (C := RX1) (T := TX1) (N := 4) hx hb hts inq_rest_X1 hown hK hP 0 rfl rfl 0 (by decide) (hts (.fieldLink RX1 9 "ArchivistTricks$Ending" "margins" "[I") (by decide +kernel)) (fun _ h9 => h9) rfl dX1_rest_78 ?_
      refine lv_iload hx hb dX1_rest_81 (lv_at hl 2 rfl) ?_
      refine lv_iload hx hb dX1_rest_83 (lv_at hl 0 rfl) ?_
      refine va_iast hx hb hK hP hD hS 1 0 rfl rfl (i := j_X1_stateOf vfa vsa x1 x0 x2) (q_viF c_1 hVr hv0 hok) dX1_rest_85 (fun H locs hP hD hS => ?_)
      have hP : va_P D vwCl [(aE, .inr (1, [.ref aM, .long vfa, .long vsa, .int vtr])), (aM, .inl (cM, 8192, .inl (upd u1 (j_X1_stateOf vfa vsa x1 x0 x2).toNatClampNeg (q_m vtr d x0 x1 (-1) x2 0))))] H := hP
      have hD : va_D A [(aE, .inr (1, [.ref aM, .long vfa, .long vsa, .int vtr])), (aM, .inl (cM, 8192, .inl (upd u1 (j_X1_stateOf vfa vsa x1 x0 x2).toNatClampNeg (q_m vtr d x0 x1 (-1) x2 0))))] := hD
      refine lv_iload hx hb dX1_rest_86 (lv_at hl 0 rfl) ?_
      exact jn_iret _ hx hb hr hlocks hK hP hD hS dX1_rest_88 (q_vsF c_1 hVs hu1 hok) rfl
    · skip
      refine lv_iload hx hb dX1_rest_60 (lv_at hl 0 rfl) ?_
      exact jn_iret tab hx hb hr hlocks hK hP hD hS dX1_rest_62 hv0 ((q_vrF c_1 hVr hv0 hok).2.2.resolve_left c_2)
  · skip
    refine lv_aload_n hx hb dX1_rest_5 rfl (lv_at hl 0 rfl) ?_
    refine lv_lload_n hx hb dX1_rest_6 rfl (lv_at hl 1 rfl) ?_
    refine lv_lload_n hx hb dX1_rest_7 rfl (lv_at hl 2 rfl) ?_
    refine lv_iload hx hb dX1_rest_8 (lv_at hl 3 rfl) ?_
    refine jr_callV (n := 3) (C := RX1) (As := [.long x0, .long x1, .int x2]) (rest := []) S (c_X1_stateOf aE aM cM tab vfa vsa vtr x0 x1 x2) gX1_rest_X1_stateOf rfl (by decide +kernel) rfl ⟨⟨rfl, rfl⟩, ⟨(by show 2 ≤ 3 * d + 7; omega), (by show 56 ≤ 100 * d + 189; omega)⟩, Nat.zero_le _, Nat.zero_le _⟩ hP hK hN [0, 1] [0] rfl rfl 0 1 rfl rfl rfl (lv_nil hl) rfl (Nat.le_of_ble_eq_true rfl) dX1_rest_10 ?_
    refine lv_goto (tgt := 24) hx hb dX1_rest_13 (by decide) ?_
    refine lv_istore (lv' := [(7, .int (j_X1_stateOf vfa vsa x0 x1 x2)), (0, .ref aE), (1, .long x0), (3, .long x1), (5, .int x2), (6, .int (nI d))]) hx hb dX1_rest_24 hl (by decide) rfl (fun ls hl => ?_)
    refine lv_iload hx hb dX1_rest_26 (lv_at hl 0 rfl) ?_
    refine lv_if_lt (tgt := 41) hx hb dX1_rest_28 (by decide) (fun c_ => absurd c_ (q_vrT c_1 hVr hv0 hok).1) (fun _ => ?_)
    refine lv_iload hx hb dX1_rest_31 (lv_at hl 0 rfl) ?_
    refine lv_aload_n hx hb dX1_rest_33 rfl (lv_at hl 1 rfl) ?_
    refine va_get (D := D) (ci := 1) (v := .ref aM) (C := RX1) (T := TX1) (N := 4) hx hb hts inq_rest_X1 hown hK hP 0 rfl rfl 0 (by decide) (hts (.fieldLink RX1 9 "ArchivistTricks$Ending" "margins" "[I") (by decide +kernel)) (fun _ h9 => h9) rfl dX1_rest_34 ?_
    refine va_alen hx hb hK hP 1 0 rfl rfl (v := 8192) rfl dX1_rest_37 ?_
    refine lv_icmp_lt (tgt := 43) hx hb dX1_rest_38 (by decide) (fun _ => ?_) (fun c_ => absurd (q_vrT c_1 hVr hv0 hok).2.1 c_)
    refine lv_aload_n hx hb dX1_rest_43 rfl (lv_at hl 1 rfl) ?_
    refine va_get (D := D) (ci := 1) (v := .ref aM) (C := RX1) (T := TX1) (N := 4) hx hb hts inq_rest_X1 hown hK hP 0 rfl rfl 0 (by decide) (hts (.fieldLink RX1 9 "ArchivistTricks$Ending" "margins" "[I") (by decide +kernel)) (fun _ h9 => h9) rfl dX1_rest_44 ?_
    refine lv_iload hx hb dX1_rest_47 (lv_at hl 0 rfl) ?_
    refine va_iald hx hb hK hP 1 0 rfl rfl (i := j_X1_stateOf vfa vsa x0 x1 x2) (q_viT c_1 hVr hv0 hok) dX1_rest_49 ?_
    refine lv_istore (lv' := [(8, .int (tab (j_X1_stateOf vfa vsa x0 x1 x2).toNatClampNeg)), (7, .int (j_X1_stateOf vfa vsa x0 x1 x2)), (0, .ref aE), (1, .long x0), (3, .long x1), (5, .int x2), (6, .int (nI d))]) hx hb dX1_rest_50 hl (by decide) rfl (fun ls hl => ?_)
    refine lv_iload hx hb dX1_rest_52 (lv_at hl 0 rfl) ?_
    refine lv_sipush (v := 1000) hx hb dX1_rest_54 (by decide) ?_
    refine lv_icmp_eq (tgt := 63) hx hb dX1_rest_57 (by decide) (fun c_3 => ?_) (fun c_3 => ?_)
    · skip
      refine lv_aload_n hx hb dX1_rest_63 rfl (lv_at hl 2 rfl) ?_
      refine lv_lload_n hx hb dX1_rest_64 rfl (lv_at hl 3 rfl) ?_
      refine lv_lload_n hx hb dX1_rest_65 rfl (lv_at hl 4 rfl) ?_
      refine lv_iconst (v := (-1)) hx hb dX1_rest_66 (by decide) ?_
      refine lv_iload hx hb dX1_rest_67 (lv_at hl 5 rfl) ?_
      refine lv_iconst (v := 0) hx hb dX1_rest_69 (by decide) ?_
      refine lv_iload hx hb dX1_rest_70 (lv_at hl 6 rfl) ?_
      refine jn_call (n := 6) (As := [.long x0, .long x1, .int (-1), .int x2, .int 0, .int (nI d)]) (rest := []) S (hM x0 x1 (-1) x2 0 tab hok hv0) gX1_rest_X1_margin rfl (by decide +kernel) rfl ⟨⟨rfl, rfl⟩, ⟨(by show 3 * d + 6 + 1 ≤ 3 * d + 7; omega), (by show 8 + (11 + 11) + (100 * d + 150) ≤ 100 * d + 189; omega)⟩, Nat.zero_le _, Nat.zero_le _⟩ hP hK hN hD hS hA (lv_nil hl) rfl (Nat.le_of_ble_eq_true rfl) dX1_rest_72 (fun u2 hu2 H locs hP hD hS => ?_)
      refine lv_istore (lv' := [(9, .int (q_m vtr d x0 x1 (-1) x2 0)), (8, .int (tab (j_X1_stateOf vfa vsa x0 x1 x2).toNatClampNeg)), (7, .int (j_X1_stateOf vfa vsa x0 x1 x2)), (0, .ref aE), (1, .long x0), (3, .long x1), (5, .int x2), (6, .int (nI d))]) hx hb dX1_rest_75 hl (by decide) rfl (fun ls hl => ?_)
      refine lv_aload_n hx hb dX1_rest_77 rfl (lv_at hl 3 rfl) ?_
      refine va_get (D := D) (ci := 1) (v := .ref aM) (C := RX1) (T := TX1) (N := 4) hx hb hts inq_rest_X1 hown hK hP 0 rfl rfl 0 (by decide) (hts (.fieldLink RX1 9 "ArchivistTricks$Ending" "margins" "[I") (by decide +kernel)) (fun _ h9 => h9) rfl dX1_rest_78 ?_
      refine lv_iload hx hb dX1_rest_81 (lv_at hl 2 rfl) ?_
      refine lv_iload hx hb dX1_rest_83 (lv_at hl 0 rfl) ?_
      refine va_iast hx hb hK hP hD hS 1 0 rfl rfl (i := j_X1_stateOf vfa vsa x0 x1 x2) (q_viT c_1 hVr hv0 hok) dX1_rest_85 (fun H locs hP hD hS => ?_)
      have hP : va_P D vwCl [(aE, .inr (1, [.ref aM, .long vfa, .long vsa, .int vtr])), (aM, .inl (cM, 8192, .inl (upd u2 (j_X1_stateOf vfa vsa x0 x1 x2).toNatClampNeg (q_m vtr d x0 x1 (-1) x2 0))))] H := hP
      have hD : va_D A [(aE, .inr (1, [.ref aM, .long vfa, .long vsa, .int vtr])), (aM, .inl (cM, 8192, .inl (upd u2 (j_X1_stateOf vfa vsa x0 x1 x2).toNatClampNeg (q_m vtr d x0 x1 (-1) x2 0))))] := hD
      refine lv_iload hx hb dX1_rest_86 (lv_at hl 0 rfl) ?_
      exact jn_iret _ hx hb hr hlocks hK hP hD hS dX1_rest_88 (q_vsT c_1 hVs hu2 hok) rfl
    · skip
      refine lv_iload hx hb dX1_rest_60 (lv_at hl 0 rfl) ?_
      exact jn_iret tab hx hb hr hlocks hK hP hD hS dX1_rest_62 hv0 ((q_vrT c_1 hVr hv0 hok).2.2.resolve_left c_3)
/-- where a card may be played, what is left may come, too -/
abbrev q_CL (vtr : Int32) (OK : Nat → Int64 → Int64 → Int32 → Int32 → Prop) (d : Nat) : Prop := ∀ (x1 x2 : Int64) (x3 x4 : Int32) (i : Nat), i < 42 → OK (d + 1) x1 x2 x3 x4 → ¬ j_X1_mayPlay vtr x1 (nI i) x3 = 0 → (x3 = (-1) → OK d x2 (x1 &&& ((j_X2_bit (nI i)) ^^^ (-1))) (nI i) (1 - x4)) ∧ (¬ x3 = (-1) → OK d (x1 &&& ((j_X2_bit (nI i)) ^^^ (-1))) x2 (-1) x4) ∧ (¬ x3 = (-1) → OK d x2 (x1 &&& ((j_X2_bit (nI i)) ^^^ (-1))) (-1) (1 - x4))
set_option maxRecDepth 100000 in
set_option maxHeartbeats 8000000 in
theorem t_margin {l : Launch} {D : va_G} {aE aM : Nat} {cM : ClassId} {vfa vsa : Int64} {vtr : Int32} {OK : Nat → Int64 → Int64 → Int32 → Int32 → Prop} {Val : (Nat → Int32) → Prop} {d : Nat} (hd : d < 1000) (hCl : q_CL vtr OK d) (hB : qB l D aE aM cM vfa vsa vtr OK Val d) : qM l D aE aM cM vfa vsa vtr OK Val (d + 1) := by
  intro x1 x2 x3 x4 x5 tab0 hok hvt
  have hC := fun i hi (hok : OK (d + 1) x1 x2 x3 x4) h => hCl x1 x2 x3 x4 i hi hok h
  have hpos : 0 < nI (d + 1) := nI_lt (a := 0) (b := d + 1) (by omega) (by omega)
  revert hvt; generalize tab0 = tab; intro hv0
  refine jW_of (QQ := fun A => jQn D (q_m vtr (d + 1) x1 x2 x3 x4 x5) Val (fun u => jE aE aM cM u vfa vsa vtr) [(cM, .int)] A) (cc := cX1_margin) (maxL := 11) (ret := (some .int)) (by decide) rfl (Nat.le_of_ble_eq_true rfl) ?_
  intro p e s m below meth c ls A S hr hlocks hini hP hK hN hD hS hA hl
  obtain ⟨hx, hb, hml, hown, hts⟩ := id S
  have hl : lv_has ls 11 [(0, .ref aE), (1, .long x1), (3, .long x2), (5, .int x3), (6, .int x4), (7, .int x5), (8, .int (nI (d + 1)))] := hl
  have loop21 : ¬ lg_cmp x1 0 = 0 → ∀ (n i : Nat) (y9 : Int32) (tab : Nat → Int32), i + n = 42 → Val tab → q_max vtr (q_m vtr d) x1 x2 x3 x4 x5 n i y9 = (q_m vtr (d + 1) x1 x2 x3 x4 x5) → ∀ (H : Heap) (locs : List Loc), va_P D vwCl (jE aE aM cM tab vfa vsa vtr) H → va_D A (jE aE aM cM tab vfa vsa vtr) → va_S A s.heap H locs → ∀ (ls : Array Slot), lv_has ls 11 [(10, .int (nI i)), (9, .int y9), (0, .ref aE), (1, .long x1), (3, .long x2), (5, .int x3), (6, .int x4), (7, .int x5), (8, .int (nI (d + 1)))] → W p l e (rqM (d + 1)) s m ([.ref aE, .long x1, .long x2, .int x3, .int x4, .int x5, .int (nI (d + 1))] : List Value).toArray below meth c H locs 0 0 (MQ below (jQn D (q_m vtr (d + 1) x1 x2 x3 x4 x5) Val (fun u => jE aE aM cM u vfa vsa vtr) [(cM, .int)] A) ([.ref aE, .long x1, .long x2, .int x3, .int x4, .int x5, .int (nI (d + 1))] : List Value).toArray s 0 0 A) (F0 m 21 ls []) := by
    intro hne n
    induction n with
    | zero =>
      intro i y9 tab hin hv0 hv H locs hP hD hS ls hl
      have hge : (42 : Int32) ≤ nI i := by rw [show i = 42 by omega]; decide
      refine lv_iload hx hb dX1_margin_21 (lv_at hl 0 rfl) ?_
      refine lv_bipush (v := 42) hx hb dX1_margin_23 (by decide) ?_
      refine lv_icmp_ge (tgt := 69) hx hb dX1_margin_25 (by decide) (fun _ => ?_) (fun c_ => absurd hge c_)
      refine lv_iload hx hb dX1_margin_69 (lv_at hl 1 rfl) ?_
      exact jn_iret tab hx hb hr hlocks hK hP hD hS dX1_margin_71 hv0 hv
    | succ n ih =>
      intro i y9 tab hin hv0 hv H locs hP hD hS ls hl
      have hge : ¬ (42 : Int32) ≤ nI i := nI_ge (a := i) (b := 42) (by omega) (by decide)
      refine lv_iload hx hb dX1_margin_21 (lv_at hl 0 rfl) ?_
      refine lv_bipush (v := 42) hx hb dX1_margin_23 (by decide) ?_
      refine lv_icmp_ge (tgt := 69) hx hb dX1_margin_25 (by decide) (fun c_ => absurd c_ hge) (fun _ => ?_)
      refine lv_aload_n hx hb dX1_margin_28 rfl (lv_at hl 2 rfl) ?_
      refine lv_lload_n hx hb dX1_margin_29 rfl (lv_at hl 3 rfl) ?_
      refine lv_iload hx hb dX1_margin_30 (lv_at hl 0 rfl) ?_
      refine lv_iload hx hb dX1_margin_32 (lv_at hl 5 rfl) ?_
      refine jr_callV (n := 3) (C := RX1) (As := [.long x1, .int (nI i), .int x3]) (rest := []) S (c_X1_mayPlay aE aM cM tab vfa vsa vtr x1 (nI i) x3) gX1_margin_X1_mayPlay rfl (by decide +kernel) rfl ⟨⟨rfl, rfl⟩, ⟨(by show 3 ≤ 3 * (d + 1) + 6; omega), (by show 75 ≤ 100 * (d + 1) + 150; omega)⟩, Nat.zero_le _, Nat.zero_le _⟩ hP hK hN [0, 1] [0] rfl rfl 0 1 rfl rfl rfl (lv_nil hl) rfl (Nat.le_of_ble_eq_true rfl) dX1_margin_34 ?_
      refine lv_if_eq (tgt := 63) hx hb dX1_margin_37 (by decide) (fun c_101 => ?_) (fun c_101 => ?_)
      · skip
        refine lv_iinc (v := nI (i + 1)) (lv' := [(10, .int (nI (i + 1))), (9, .int y9), (0, .ref aE), (1, .long x1), (3, .long x2), (5, .int x3), (6, .int x4), (7, .int x5), (8, .int (nI (d + 1)))]) hx hb dX1_margin_63 hl (k := 0) rfl (nI_1 i) (by decide) rfl (fun ls hl => ?_)
        refine lv_goto (tgt := 21) hx hb dX1_margin_66 (by decide) ?_
        exact ih (i + 1) y9 tab (by omega) hv0 (by rw [← hv]; simp only [q_max, if_neg hge, if_pos c_101]) _ _ hP hD hS ls (lv_sub hl [0, 1, 2, 3, 4, 5, 6, 7, 8] rfl)
      · skip
        refine lv_iload hx hb dX1_margin_40 (lv_at hl 1 rfl) ?_
        refine lv_aload_n hx hb dX1_margin_42 rfl (lv_at hl 2 rfl) ?_
        refine lv_iload hx hb dX1_margin_43 (lv_at hl 0 rfl) ?_
        refine lv_lload_n hx hb dX1_margin_45 rfl (lv_at hl 3 rfl) ?_
        refine lv_lload_n hx hb dX1_margin_46 rfl (lv_at hl 4 rfl) ?_
        refine lv_iload hx hb dX1_margin_47 (lv_at hl 5 rfl) ?_
        refine lv_iload hx hb dX1_margin_49 (lv_at hl 6 rfl) ?_
        refine lv_iload hx hb dX1_margin_51 (lv_at hl 7 rfl) ?_
        refine lv_iload hx hb dX1_margin_53 (lv_at hl 8 rfl) ?_
        refine jn_call (n := 7) (As := [.int (nI i), .long x1, .long x2, .int x3, .int x4, .int x5, .int (nI (d + 1))]) (rest := [.int y9]) S (hB (nI i) x1 x2 x3 x4 x5 tab (hC i (by omega) hok c_101).1 (hC i (by omega) hok c_101).2.1 (hC i (by omega) hok c_101).2.2 hv0) gX1_margin_X1_marginBy rfl (by decide +kernel) rfl ⟨⟨rfl, rfl⟩, ⟨(by show 3 * (d + 1) + 5 + 1 ≤ 3 * (d + 1) + 6; omega), (by show 8 + (13 + 11) + (100 * (d + 1) + 118) ≤ 100 * (d + 1) + 150; omega)⟩, Nat.zero_le _, Nat.zero_le _⟩ hP hK hN hD hS hA (lv_nil hl) rfl (Nat.le_of_ble_eq_true rfl) dX1_margin_55 (fun u1 hu1 H locs hP hD hS => ?_)
        refine va_mmax (cc := cX1_margin) hx hb (hml.trans hl.1.symm) hown (hts (.methodLink RX1 44 Lib.Math.max.name) (by decide +kernel)) (hts (.static Lib.Math.max.name) (by decide +kernel)) (hts (.initialized "java/lang/Math") (by decide +kernel)) (hts (.code Lib.Math.max.name Lib.Math.max.code 2 (some .int)) (by decide +kernel)) (by show 1 ≤ 3 * (d + 1) + 6; omega) (by show 13 ≤ 100 * (d + 1) + 150; omega) (Nat.zero_le _) (Nat.zero_le _) dX1_margin_58 ?_
        refine lv_istore (lv' := [(9, .int (if y9 < q_by vtr (q_m vtr d) (nI i) x1 x2 x3 x4 x5 then q_by vtr (q_m vtr d) (nI i) x1 x2 x3 x4 x5 else y9)), (10, .int (nI i)), (0, .ref aE), (1, .long x1), (3, .long x2), (5, .int x3), (6, .int x4), (7, .int x5), (8, .int (nI (d + 1)))]) hx hb dX1_margin_61 hl (by decide) rfl (fun ls hl => ?_)
        refine lv_iinc (v := nI (i + 1)) (lv' := [(10, .int (nI (i + 1))), (9, .int (if y9 < q_by vtr (q_m vtr d) (nI i) x1 x2 x3 x4 x5 then q_by vtr (q_m vtr d) (nI i) x1 x2 x3 x4 x5 else y9)), (0, .ref aE), (1, .long x1), (3, .long x2), (5, .int x3), (6, .int x4), (7, .int x5), (8, .int (nI (d + 1)))]) hx hb dX1_margin_63 hl (k := 1) rfl (nI_1 i) (by decide) rfl (fun ls hl => ?_)
        refine lv_goto (tgt := 21) hx hb dX1_margin_66 (by decide) ?_
        exact ih (i + 1) (if y9 < q_by vtr (q_m vtr d) (nI i) x1 x2 x3 x4 x5 then q_by vtr (q_m vtr d) (nI i) x1 x2 x3 x4 x5 else y9) u1 (by omega) hu1 (by rw [← hv]; simp only [q_max, if_neg hge, if_neg c_101]) _ _ hP hD hS ls (lv_sub hl [0, 1, 2, 3, 4, 5, 6, 7, 8] rfl)
  refine lv_lload_n hx hb dX1_margin_0 rfl (lv_at hl 1 rfl) ?_
  refine lv_lconst (v := 0) hx hb dX1_margin_1 (by decide) ?_
  refine W.lcmp hx hb dX1_margin_2 ?_
  refine lv_if_eq (tgt := 11) hx hb dX1_margin_3 (by decide) (fun c_1 => ?_) (fun c_1 => ?_)
  · skip
    refine lv_iconst (v := 0) hx hb dX1_margin_11 (by decide) ?_
    exact jn_iret tab hx hb hr hlocks hK hP hD hS dX1_margin_12 hv0 (by simp only [q_m, if_pos c_1])
  · skip
    refine lv_iload hx hb dX1_margin_6 (lv_at hl 6 rfl) ?_
    refine lv_if_gt (tgt := 13) hx hb dX1_margin_8 (by decide) (fun _ => ?_) (fun c_ => absurd hpos c_)
    refine lv_sipush (v := (-1000)) hx hb dX1_margin_13 (by decide) ?_
    refine lv_istore (lv' := [(9, .int (-1000)), (0, .ref aE), (1, .long x1), (3, .long x2), (5, .int x3), (6, .int x4), (7, .int x5), (8, .int (nI (d + 1)))]) hx hb dX1_margin_16 hl (by decide) rfl (fun ls hl => ?_)
    refine lv_iconst (v := 0) hx hb dX1_margin_18 (by decide) ?_
    refine lv_istore (lv' := [(10, .int 0), (9, .int (-1000)), (0, .ref aE), (1, .long x1), (3, .long x2), (5, .int x3), (6, .int x4), (7, .int x5), (8, .int (nI (d + 1)))]) hx hb dX1_margin_19 hl (by decide) rfl (fun ls hl => ?_)
    exact loop21 c_1 42 0 (-1000) tab rfl hv0 (by simp only [q_m, if_neg c_1]) _ _ hP hD hS ls (lv_sub (l' := [(10, .int (nI 0)), (9, .int (-1000)), (0, .ref aE), (1, .long x1), (3, .long x2), (5, .int x3), (6, .int x4), (7, .int x5), (8, .int (nI (d + 1)))]) hl [0, 1, 2, 3, 4, 5, 6, 7, 8] rfl)
