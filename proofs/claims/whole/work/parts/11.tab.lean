/-! THE MODEL: the table (laid by wip/whole/rows.py) -/
/-- how often a mask loses its lowest bit -/
def jx_z : Nat → Int32 → Bool
  | 0, _ => false
  | n + 1, x => x == 0 || jx_z n (x &&& (x - 1))
theorem jx_z64 {x : Int32} (h : vp_in x 64) : jx_z 7 x = true := by
  obtain ⟨i, hi, rfl⟩ := vp_in_of h (by decide)
  have hall : (List.range 64).all (fun i => jx_z 7 (nI i)) = true := by decide +kernel
  exact List.all_eq_true.mp hall i (List.mem_range.mpr hi)
def j_X3_many_4 : Nat → Int32 → Int32 → Int32
  | 0, y1, y2 => y1
  | n + 1, y1, y2 => if y2 = 0 then y1 else j_X3_many_4 n (y1 + 1) (y2 &&& (y2 - 1))
def j_X3_many (x0 : Int32) : Int32 := j_X3_many_4 7 0 x0
abbrev rX3_many : Room := { frames := 0, cells := 0, slots := 0, locals := 0 }
set_option maxRecDepth 100000 in
set_option maxHeartbeats 4000000 in
theorem c_X3_many {l : Launch} {D : va_G} (x0 : Int32) (hm : vp_in x0 64) : jR l yX3_many wsX3_many rX3_many D [.int x0] [] [] (.int (j_X3_many x0)) := by
  refine jR_of (cc := cX3_many) (maxL := 3) (ret := some .int) (by decide) rfl (Nat.le_of_ble_eq_true rfl) ?_
  intro p e s m below meth c ls S hr hlocks hP hK hN hl
  obtain ⟨hx, hb, hml, hown, hts⟩ := id S
  have hl : lv_has ls 3 [(0, .int x0)] := hl
  have loop4 : ∀ (n : Nat) (y1 y2 : Int32), jx_z n y2 = true → j_X3_many_4 n y1 y2 = j_X3_many x0 → ∀ (ls : Array Slot), lv_has ls 3 [(1, .int y1), (2, .int y2)] → W p l e rX3_many s m ([.int x0] : List Value).toArray below meth c s.heap [] 0 0 (MQ below (k2_QcV (.int (j_X3_many x0))) ([.int x0] : List Value).toArray s 0 0 (fun _ => False)) (F0 m 4 ls []) := by
    intro n
    induction n with
    | zero => intro y1 y2 hz; exact absurd hz (by simp [jx_z])
    | succ n ih =>
      intro y1 y2 hz hv ls hl
      refine lv_iload_n hx hb dX3_many_4 rfl (lv_at hl 1 rfl) ?_
      refine lv_if_eq (tgt := 20) hx hb dX3_many_5 (by decide) (fun c_1 => ?_) (fun c_1 => ?_)
      · refine lv_iload_n hx hb dX3_many_20 rfl (lv_at hl 0 rfl) ?_
        exact jr_iret hx hb hr hlocks dX3_many_21 (by rw [← hv]; simp only [j_X3_many_4, if_pos c_1])
      · refine lv_iinc (v := y1 + 1) (lv' := [(1, .int (y1 + 1)), (2, .int y2)]) hx hb dX3_many_8 hl (k := 0) rfl rfl (by decide) rfl (fun ls hl => ?_)
        refine lv_iload_n hx hb dX3_many_11 rfl (lv_at hl 1 rfl) ?_
        refine lv_iload_n hx hb dX3_many_12 rfl (lv_at hl 1 rfl) ?_
        refine lv_iconst (v := 1) hx hb dX3_many_13 (by decide) ?_
        refine lv_isub hx hb dX3_many_14 ?_
        refine lv_iand hx hb dX3_many_15 ?_
        refine lv_istore_n (lv' := [(2, .int (y2 &&& (y2 - 1))), (1, .int (y1 + 1))]) hx hb dX3_many_16 rfl hl (by decide) rfl (fun ls hl => ?_)
        refine lv_goto (tgt := 4) hx hb dX3_many_17 (by decide) ?_
        have hz' : jx_z n (y2 &&& (y2 - 1)) = true := by
          have h := hz
          simp only [jx_z, Bool.or_eq_true, beq_iff_eq] at h
          exact h.resolve_left c_1
        exact ih (y1 + 1) (y2 &&& (y2 - 1)) hz' (by rw [← hv]; simp only [j_X3_many_4, if_neg c_1]) ls (lv_sub hl [1, 0] rfl)
  refine lv_iconst (v := 0) hx hb dX3_many_0 (by decide) ?_
  refine lv_istore_n (lv' := [(1, .int 0), (0, .int x0)]) hx hb dX3_many_1 rfl hl (by decide) rfl (fun ls hl => ?_)
  refine lv_iload_n hx hb dX3_many_2 rfl (lv_at hl 1 rfl) ?_
  refine lv_istore_n (lv' := [(2, .int x0), (1, .int 0), (0, .int x0)]) hx hb dX3_many_3 rfl hl (by decide) rfl (fun ls hl => ?_)
  exact loop4 7 0 x0 (jx_z64 hm) rfl ls (lv_sub hl [1, 0] rfl)
/-- how many of n places from i on are a's -/
def jx_cnt (f : Nat → Int32) (a : Int32) : Nat → Nat → Nat
  | 0, _ => 0
  | n + 1, i => (if f (nI i).toNatClampNeg = a then 1 else 0) + jx_cnt f a n (i + 1)
theorem jx_cs_t {f : Nat → Int32} {a y : Int32} {n i : Nat} (hq : ∃ k, y = nI k ∧ k + jx_cnt f a (n + 1) i ≤ 6) (c0 : f (nI i).toNatClampNeg = a) : ∃ k, y + 1 = nI k ∧ k + jx_cnt f a n (i + 1) ≤ 6 := by
  obtain ⟨k, rfl, h⟩ := hq
  rw [jx_cnt, if_pos c0] at h
  exact ⟨k + 1, nI_1 k, by omega⟩
theorem jx_cs_f {f : Nat → Int32} {a y : Int32} {n i : Nat} (hq : ∃ k, y = nI k ∧ k + jx_cnt f a (n + 1) i ≤ 6) (c0 : ¬ f (nI i).toNatClampNeg = a) : ∃ k, y = nI k ∧ k + jx_cnt f a n (i + 1) ≤ 6 := by
  obtain ⟨k, rfl, h⟩ := hq
  rw [jx_cnt, if_neg c0] at h
  exact ⟨k, rfl, by omega⟩
theorem jx_ci {f : Nat → Int32} {a y : Int32} {n i : Nat} (hq : ∃ k, y = nI k ∧ k + jx_cnt f a (n + 1) i ≤ 6) (c0 : f (nI i).toNatClampNeg = a) : vp_in y 6 := by
  obtain ⟨k, rfl, h⟩ := hq
  rw [jx_cnt, if_pos c0] at h
  exact vp_in_nI (by omega) (by decide)
theorem jx_t0 {a b : Nat} (ha : a < 64) (hb : b < 64) : vp_in (64 * nI a + nI b) 8192 := by
  rw [show (64 : Int32) * nI a + nI b = nI (64 * a + b) from by rw [← nI_add, ← pk_mul]; rfl]
  exact vp_in_nI (by omega) (by decide)
theorem jx_t1 {a b : Nat} (ha : a < 64) (hb : b < 64) : vp_in (4096 + 64 * nI a + nI b) 8192 := by
  rw [show (4096 : Int32) + 64 * nI a + nI b = nI (4096 + 64 * a + b) from by rw [← nI_add, ← nI_add, ← pk_mul]; rfl]
  exact vp_in_nI (by omega) (by decide)

abbrev rX3_laysHands : Room := { frames := 0, cells := 0, slots := 0, locals := 0 }
def j_X3_laysHands_11_y2 (uplace : Nat → Int32) (ya : Int32) : Nat → Nat → Int32 → (Nat → Int32) → Int32
  | 0, i, y2, zuheld => y2
  | n + 1, i, y2, zuheld => (if uplace (nI i).toNatClampNeg = ya then j_X3_laysHands_11_y2 uplace ya n (i + 1) (y2 + 1) (upd zuheld ((6 * ya) + y2).toNatClampNeg (nI i)) else j_X3_laysHands_11_y2 uplace ya n (i + 1) y2 zuheld)
def j_X3_laysHands_11_uheld (uplace : Nat → Int32) (ya : Int32) : Nat → Nat → Int32 → (Nat → Int32) → (Nat → Int32)
  | 0, i, y2, zuheld => zuheld
  | n + 1, i, y2, zuheld => (if uplace (nI i).toNatClampNeg = ya then j_X3_laysHands_11_uheld uplace ya n (i + 1) (y2 + 1) (upd zuheld ((6 * ya) + y2).toNatClampNeg (nI i)) else j_X3_laysHands_11_uheld uplace ya n (i + 1) y2 zuheld)
def j_X3_laysHands_uheld (uplace : Nat → Int32) (uheld : Nat → Int32) : Nat → Int32 := j_X3_laysHands_11_uheld uplace 1 (42) 0 0 (j_X3_laysHands_11_uheld uplace 0 (42) 0 0 uheld)
theorem inX3_laysHands_X3 : ∀ w ∈ u_ws RX3 TX3 15, w ∈ wsX3_laysHands := by decide +kernel
set_option maxRecDepth 100000 in
set_option maxHeartbeats 8000000 in
theorem c_X3_laysHands {l : Launch} {D : va_G} (b0 : Nat) (bP : Nat) (bR : Nat) (bS : Nat) (bT : Nat) (bG : Nat) (bW : Nat) (bH : Nat) (bO : Nat) (cP : ClassId) (cR : ClassId) (cS : ClassId) (cT : ClassId) (cG : ClassId) (cW : ClassId) (cH : ClassId) (cO : ClassId) (uplace : Nat → Int32) (urow : Nat → Int32) (upts : Nat → Int32) (utks : Nat → Int32) (uglv : Nat → Int32) (uwin : Nat → Int32) (uheld : Nat → Int32) (utab : Nat → Int32) (udrawn : Int32) (udealt : Int32) (uon : Int32) (uturn : Int32) (uled : Int32) (utr : Int32) (uthr : Int32) (h6a : jx_cnt uplace 0 42 0 ≤ 6) (h6b : jx_cnt uplace 1 42 0 ≤ 6) : jWv l yX3_laysHands wsX3_laysHands rX3_laysHands D [.ref b0] (jM b0 bP bR bS bT bG bW bH bO cP cR cS cT cG cW cH cO uplace urow upts utks uglv uwin uheld utab udrawn udealt uon uturn uled utr uthr) [(cP, .int), (cR, .int), (cS, .int), (cT, .int), (cG, .int), (cW, .int), (cH, .int), (cO, .int)] (jM b0 bP bR bS bT bG bW bH bO cP cR cS cT cG cW cH cO uplace urow upts utks uglv uwin (j_X3_laysHands_uheld uplace uheld) utab udrawn udealt uon uturn uled utr uthr) := by
  refine jW_of (QQ := fun A => (jQv D (jM b0 bP bR bS bT bG bW bH bO cP cR cS cT cG cW cH cO uplace urow upts utks uglv uwin (j_X3_laysHands_uheld uplace uheld) utab udrawn udealt uon uturn uled utr uthr) [(cP, .int), (cR, .int), (cS, .int), (cT, .int), (cG, .int), (cW, .int), (cH, .int), (cO, .int)] A)) (cc := cX3_laysHands) (maxL := 4) (ret := none) (by decide) rfl (Nat.le_of_ble_eq_true rfl) ?_
  intro p e s m below meth c ls A S hr hlocks hini hP hK hN hD hS hA hl
  obtain ⟨hx, hb, hml, hown, hts⟩ := id S
  have hl : lv_has ls 4 [(0, .ref b0)] := hl
  have loop11 : ∀ (ya : Int32) (hya : ya = 0 ∨ ya = 1) (n i : Nat) (y2 : Int32) (zuheld : Nat → Int32), i + n = 42 → (∃ k, y2 = nI k ∧ k + jx_cnt uplace ya n i ≤ 6) → ∀ (H : Heap) (locs : List Loc), va_P D vwCl [(b0, .inr (3, [.ref bP, .ref bR, .int udrawn, .int udealt, .int uon, .int uturn, .int uled, .int utr, .ref bS, .ref bT, .ref bG, .ref bW, .int uthr, .ref bH, .ref bO])), (bP, .inl (cP, 42, .inl uplace)), (bR, .inl (cR, 42, .inl urow)), (bS, .inl (cS, 2, .inl upts)), (bT, .inl (cT, 2, .inl utks)), (bG, .inl (cG, 2, .inl uglv)), (bW, .inl (cW, 2, .inl uwin)), (bH, .inl (cH, 12, .inl zuheld)), (bO, .inl (cO, 8192, .inl utab))] H → va_D A [(b0, .inr (3, [.ref bP, .ref bR, .int udrawn, .int udealt, .int uon, .int uturn, .int uled, .int utr, .ref bS, .ref bT, .ref bG, .ref bW, .int uthr, .ref bH, .ref bO])), (bP, .inl (cP, 42, .inl uplace)), (bR, .inl (cR, 42, .inl urow)), (bS, .inl (cS, 2, .inl upts)), (bT, .inl (cT, 2, .inl utks)), (bG, .inl (cG, 2, .inl uglv)), (bW, .inl (cW, 2, .inl uwin)), (bH, .inl (cH, 12, .inl zuheld)), (bO, .inl (cO, 8192, .inl utab))] → va_S A s.heap H locs → ∀ (ls : Array Slot), lv_has ls 4 [(3, .int (nI i)), (2, .int y2), (0, .ref b0), (1, .int ya)] → (∀ (H : Heap) (locs : List Loc), va_P D vwCl [(b0, .inr (3, [.ref bP, .ref bR, .int udrawn, .int udealt, .int uon, .int uturn, .int uled, .int utr, .ref bS, .ref bT, .ref bG, .ref bW, .int uthr, .ref bH, .ref bO])), (bP, .inl (cP, 42, .inl uplace)), (bR, .inl (cR, 42, .inl urow)), (bS, .inl (cS, 2, .inl upts)), (bT, .inl (cT, 2, .inl utks)), (bG, .inl (cG, 2, .inl uglv)), (bW, .inl (cW, 2, .inl uwin)), (bH, .inl (cH, 12, .inl (j_X3_laysHands_11_uheld uplace ya n i y2 zuheld))), (bO, .inl (cO, 8192, .inl utab))] H → va_D A [(b0, .inr (3, [.ref bP, .ref bR, .int udrawn, .int udealt, .int uon, .int uturn, .int uled, .int utr, .ref bS, .ref bT, .ref bG, .ref bW, .int uthr, .ref bH, .ref bO])), (bP, .inl (cP, 42, .inl uplace)), (bR, .inl (cR, 42, .inl urow)), (bS, .inl (cS, 2, .inl upts)), (bT, .inl (cT, 2, .inl utks)), (bG, .inl (cG, 2, .inl uglv)), (bW, .inl (cW, 2, .inl uwin)), (bH, .inl (cH, 12, .inl (j_X3_laysHands_11_uheld uplace ya n i y2 zuheld))), (bO, .inl (cO, 8192, .inl utab))] → va_S A s.heap H locs → ∀ (ls : Array Slot), lv_has ls 4 [(2, .int (j_X3_laysHands_11_y2 uplace ya n i y2 zuheld)), (0, .ref b0), (1, .int ya)] → W p l e rX3_laysHands s m ([.ref b0] : List Value).toArray below meth c H locs 0 0 (MQ below (jQv D (jM b0 bP bR bS bT bG bW bH bO cP cR cS cT cG cW cH cO uplace urow upts utks uglv uwin (j_X3_laysHands_uheld uplace uheld) utab udrawn udealt uon uturn uled utr uthr) [(cP, .int), (cR, .int), (cS, .int), (cT, .int), (cG, .int), (cW, .int), (cH, .int), (cO, .int)] A) ([.ref b0] : List Value).toArray s 0 0 A) (F0 m 48 ls [])) → W p l e rX3_laysHands s m ([.ref b0] : List Value).toArray below meth c H locs 0 0 (MQ below (jQv D (jM b0 bP bR bS bT bG bW bH bO cP cR cS cT cG cW cH cO uplace urow upts utks uglv uwin (j_X3_laysHands_uheld uplace uheld) utab udrawn udealt uon uturn uled utr uthr) [(cP, .int), (cR, .int), (cS, .int), (cT, .int), (cG, .int), (cW, .int), (cH, .int), (cO, .int)] A) ([.ref b0] : List Value).toArray s 0 0 A) (F0 m 11 ls []) := by
    intro ya hya n
    induction n with
    | zero =>
      intro i y2 zuheld hin hq H locs hP hD hS ls hl K
      have hge : (42 : Int32) ≤ nI i := by rw [show i = 42 by omega]; decide
      have hgl : ¬ nI i < (42 : Int32) := by rw [show i = 42 by omega]; decide
      refine lv_iload_n hx hb dX3_laysHands_11 rfl (lv_at hl 0 rfl) ?_
      refine lv_bipush (v := 42) hx hb dX3_laysHands_12 (by decide) ?_
      refine lv_icmp_ge (tgt := 48) hx hb dX3_laysHands_14 (by decide) (fun _ => ?_) (fun c_ => absurd hge c_)
      simp only [j_X3_laysHands_11_y2, j_X3_laysHands_11_uheld, if_pos hge, if_neg hgl] at K
      exact K _ _ hP hD hS ls (lv_sub hl [1, 2, 3] rfl)
    | succ n ih =>
      intro i y2 zuheld hin hq H locs hP hD hS ls hl K
      have hge : ¬ (42 : Int32) ≤ nI i := nI_ge (a := i) (b := 42) (by omega) (by decide)
      have hgl : nI i < (42 : Int32) := nI_lt (a := i) (b := 42) (by omega) (by decide)
      refine lv_iload_n hx hb dX3_laysHands_11 rfl (lv_at hl 0 rfl) ?_
      refine lv_bipush (v := 42) hx hb dX3_laysHands_12 (by decide) ?_
      refine lv_icmp_ge (tgt := 48) hx hb dX3_laysHands_14 (by decide) (fun c_ => absurd c_ hge) (fun _ => ?_)
      refine lv_aload_n hx hb dX3_laysHands_17 rfl (lv_at hl 2 rfl) ?_
      refine va_get (D := D) (ci := 3) (v := .ref bP) (C := RX3) (T := TX3) (N := 15) hx hb hts inX3_laysHands_X3 hown hK hP 0 rfl rfl 0 (by decide) (hts (.fieldLink RX3 7 "ArchivistTricksModel" "place" "[I") (by decide +kernel)) (fun _ h9 => h9) rfl dX3_laysHands_18 ?_
      refine lv_iload_n hx hb dX3_laysHands_21 rfl (lv_at hl 0 rfl) ?_
      refine va_iald hx hb hK hP 1 0 rfl rfl (i := nI i) (vp_in_nI (by omega) (by decide)) dX3_laysHands_22 ?_
      refine lv_iload_n hx hb dX3_laysHands_23 rfl (lv_at hl 3 rfl) ?_
      refine lv_icmp_ne (tgt := 42) hx hb dX3_laysHands_24 (by decide) (fun c_11001 => ?_) (fun c_11001 => ?_)
      · skip
        refine lv_iinc (v := nI (i + 1)) (lv' := [(3, .int (nI (i + 1))), (2, .int y2), (0, .ref b0), (1, .int ya)]) hx hb dX3_laysHands_42 hl (k := 0) rfl (nI_1 i) (by decide) rfl (fun ls hl => ?_)
        refine lv_goto (tgt := 11) hx hb dX3_laysHands_45 (by decide) ?_
        simp only [j_X3_laysHands_11_y2, j_X3_laysHands_11_uheld, if_neg hge, if_pos hgl, if_neg c_11001] at K
        exact ih (i + 1) y2 zuheld (by omega) (jx_cs_f hq c_11001) _ _ hP hD hS ls (lv_sub hl [0, 1, 2, 3] rfl) K
      · skip
        refine lv_aload_n hx hb dX3_laysHands_27 rfl (lv_at hl 2 rfl) ?_
        refine va_get (D := D) (ci := 3) (v := .ref bH) (C := RX3) (T := TX3) (N := 15) hx hb hts inX3_laysHands_X3 hown hK hP 0 rfl rfl 13 (by decide) (hts (.fieldLink RX3 35 "ArchivistTricksModel" "held" "[I") (by decide +kernel)) (fun _ h9 => h9) rfl dX3_laysHands_28 ?_
        refine lv_bipush (v := 6) hx hb dX3_laysHands_31 (by decide) ?_
        refine lv_iload_n hx hb dX3_laysHands_33 rfl (lv_at hl 3 rfl) ?_
        refine lv_imul hx hb dX3_laysHands_34 ?_
        refine lv_iload_n hx hb dX3_laysHands_35 rfl (lv_at hl 1 rfl) ?_
        refine lv_iadd hx hb dX3_laysHands_36 ?_
        refine lv_iload_n hx hb dX3_laysHands_37 rfl (lv_at hl 0 rfl) ?_
        refine va_iast hx hb hK hP hD hS 7 6 rfl rfl (i := (6 * ya) + y2) (jx_heldv hya (jx_ci hq c_11001)) dX3_laysHands_38 (fun H locs hP hD hS => ?_)
        have hP : va_P D vwCl [(b0, .inr (3, [.ref bP, .ref bR, .int udrawn, .int udealt, .int uon, .int uturn, .int uled, .int utr, .ref bS, .ref bT, .ref bG, .ref bW, .int uthr, .ref bH, .ref bO])), (bP, .inl (cP, 42, .inl uplace)), (bR, .inl (cR, 42, .inl urow)), (bS, .inl (cS, 2, .inl upts)), (bT, .inl (cT, 2, .inl utks)), (bG, .inl (cG, 2, .inl uglv)), (bW, .inl (cW, 2, .inl uwin)), (bH, .inl (cH, 12, .inl (upd zuheld ((6 * ya) + y2).toNatClampNeg (nI i)))), (bO, .inl (cO, 8192, .inl utab))] H := hP
        have hD : va_D A [(b0, .inr (3, [.ref bP, .ref bR, .int udrawn, .int udealt, .int uon, .int uturn, .int uled, .int utr, .ref bS, .ref bT, .ref bG, .ref bW, .int uthr, .ref bH, .ref bO])), (bP, .inl (cP, 42, .inl uplace)), (bR, .inl (cR, 42, .inl urow)), (bS, .inl (cS, 2, .inl upts)), (bT, .inl (cT, 2, .inl utks)), (bG, .inl (cG, 2, .inl uglv)), (bW, .inl (cW, 2, .inl uwin)), (bH, .inl (cH, 12, .inl (upd zuheld ((6 * ya) + y2).toNatClampNeg (nI i)))), (bO, .inl (cO, 8192, .inl utab))] := hD
        refine lv_iinc (v := y2 + 1) (lv' := [(2, .int (y2 + 1)), (3, .int (nI i)), (0, .ref b0), (1, .int ya)]) hx hb dX3_laysHands_39 hl (k := 1) rfl rfl (by decide) rfl (fun ls hl => ?_)
        refine lv_iinc (v := nI (i + 1)) (lv' := [(3, .int (nI (i + 1))), (2, .int (y2 + 1)), (0, .ref b0), (1, .int ya)]) hx hb dX3_laysHands_42 hl (k := 1) rfl (nI_1 i) (by decide) rfl (fun ls hl => ?_)
        refine lv_goto (tgt := 11) hx hb dX3_laysHands_45 (by decide) ?_
        simp only [j_X3_laysHands_11_y2, j_X3_laysHands_11_uheld, if_neg hge, if_pos hgl, if_pos c_11001] at K
        exact ih (i + 1) (y2 + 1) (upd zuheld ((6 * ya) + y2).toNatClampNeg (nI i)) (by omega) (jx_cs_t hq c_11001) _ _ hP hD hS ls (lv_sub hl [0, 1, 2, 3] rfl) K
  refine lv_iconst (v := 0) hx hb dX3_laysHands_0 (by decide) ?_
  refine lv_istore_n (lv' := [(1, .int 0), (0, .ref b0)]) hx hb dX3_laysHands_1 rfl hl (by decide) rfl (fun ls hl => ?_)
  refine lv_iload_n hx hb dX3_laysHands_2 rfl (lv_at hl 0 rfl) ?_
  refine lv_iconst (v := 2) hx hb dX3_laysHands_3 (by decide) ?_
  refine lv_icmp_ge (tgt := 54) hx hb dX3_laysHands_4 (by decide) (fun c_ => absurd c_ (by decide)) (fun _ => ?_)
  refine lv_iconst (v := 0) hx hb dX3_laysHands_7 (by decide) ?_
  refine lv_istore_n (lv' := [(2, .int 0), (1, .int 0), (0, .ref b0)]) hx hb dX3_laysHands_8 rfl hl (by decide) rfl (fun ls hl => ?_)
  refine lv_iconst (v := 0) hx hb dX3_laysHands_9 (by decide) ?_
  refine lv_istore_n (lv' := [(3, .int 0), (2, .int 0), (1, .int 0), (0, .ref b0)]) hx hb dX3_laysHands_10 rfl hl (by decide) rfl (fun ls hl => ?_)
  refine loop11 0 (by decide) (42) 0 0 uheld (by omega) ⟨0, rfl, by rw [Nat.zero_add]; exact h6a⟩ _ _ hP hD hS ls (lv_sub (l' := [(3, .int (nI 0)), (2, .int 0), (0, .ref b0), (1, .int 0)]) hl [0, 1, 3, 2] rfl) (fun H locs hP hD hS ls hl => ?_)
  have hl : lv_has ls 4 [(2, .int (j_X3_laysHands_11_y2 uplace 0 (42) 0 0 uheld)), (0, .ref b0), (1, .int 0)] := hl
  have hP : va_P D vwCl [(b0, .inr (3, [.ref bP, .ref bR, .int udrawn, .int udealt, .int uon, .int uturn, .int uled, .int utr, .ref bS, .ref bT, .ref bG, .ref bW, .int uthr, .ref bH, .ref bO])), (bP, .inl (cP, 42, .inl uplace)), (bR, .inl (cR, 42, .inl urow)), (bS, .inl (cS, 2, .inl upts)), (bT, .inl (cT, 2, .inl utks)), (bG, .inl (cG, 2, .inl uglv)), (bW, .inl (cW, 2, .inl uwin)), (bH, .inl (cH, 12, .inl (j_X3_laysHands_11_uheld uplace 0 (42) 0 0 uheld))), (bO, .inl (cO, 8192, .inl utab))] H := hP
  have hD : va_D A [(b0, .inr (3, [.ref bP, .ref bR, .int udrawn, .int udealt, .int uon, .int uturn, .int uled, .int utr, .ref bS, .ref bT, .ref bG, .ref bW, .int uthr, .ref bH, .ref bO])), (bP, .inl (cP, 42, .inl uplace)), (bR, .inl (cR, 42, .inl urow)), (bS, .inl (cS, 2, .inl upts)), (bT, .inl (cT, 2, .inl utks)), (bG, .inl (cG, 2, .inl uglv)), (bW, .inl (cW, 2, .inl uwin)), (bH, .inl (cH, 12, .inl (j_X3_laysHands_11_uheld uplace 0 (42) 0 0 uheld))), (bO, .inl (cO, 8192, .inl utab))] := hD
  refine lv_iinc (v := 1) (lv' := [(1, .int 1), (2, .int (j_X3_laysHands_11_y2 uplace 0 (42) 0 0 uheld)), (0, .ref b0)]) hx hb dX3_laysHands_48 hl (k := 2) rfl (by decide) (by decide) rfl (fun ls hl => ?_)
  refine lv_goto (tgt := 2) hx hb dX3_laysHands_51 (by decide) ?_
  refine lv_iload_n hx hb dX3_laysHands_2 rfl (lv_at hl 0 rfl) ?_
  refine lv_iconst (v := 2) hx hb dX3_laysHands_3 (by decide) ?_
  refine lv_icmp_ge (tgt := 54) hx hb dX3_laysHands_4 (by decide) (fun c_ => absurd c_ (by decide)) (fun _ => ?_)
  refine lv_iconst (v := 0) hx hb dX3_laysHands_7 (by decide) ?_
  refine lv_istore_n (lv' := [(2, .int 0), (1, .int 1), (0, .ref b0)]) hx hb dX3_laysHands_8 rfl hl (by decide) rfl (fun ls hl => ?_)
  refine lv_iconst (v := 0) hx hb dX3_laysHands_9 (by decide) ?_
  refine lv_istore_n (lv' := [(3, .int 0), (2, .int 0), (1, .int 1), (0, .ref b0)]) hx hb dX3_laysHands_10 rfl hl (by decide) rfl (fun ls hl => ?_)
  refine loop11 1 (by decide) (42) 0 0 (j_X3_laysHands_11_uheld uplace 0 (42) 0 0 uheld) (by omega) ⟨0, rfl, by rw [Nat.zero_add]; exact h6b⟩ _ _ hP hD hS ls (lv_sub (l' := [(3, .int (nI 0)), (2, .int 0), (0, .ref b0), (1, .int 1)]) hl [0, 1, 3, 2] rfl) (fun H locs hP hD hS ls hl => ?_)
  have hl : lv_has ls 4 [(2, .int (j_X3_laysHands_11_y2 uplace 1 (42) 0 0 (j_X3_laysHands_11_uheld uplace 0 (42) 0 0 uheld))), (0, .ref b0), (1, .int 1)] := hl
  have hP : va_P D vwCl [(b0, .inr (3, [.ref bP, .ref bR, .int udrawn, .int udealt, .int uon, .int uturn, .int uled, .int utr, .ref bS, .ref bT, .ref bG, .ref bW, .int uthr, .ref bH, .ref bO])), (bP, .inl (cP, 42, .inl uplace)), (bR, .inl (cR, 42, .inl urow)), (bS, .inl (cS, 2, .inl upts)), (bT, .inl (cT, 2, .inl utks)), (bG, .inl (cG, 2, .inl uglv)), (bW, .inl (cW, 2, .inl uwin)), (bH, .inl (cH, 12, .inl (j_X3_laysHands_11_uheld uplace 1 (42) 0 0 (j_X3_laysHands_11_uheld uplace 0 (42) 0 0 uheld)))), (bO, .inl (cO, 8192, .inl utab))] H := hP
  have hD : va_D A [(b0, .inr (3, [.ref bP, .ref bR, .int udrawn, .int udealt, .int uon, .int uturn, .int uled, .int utr, .ref bS, .ref bT, .ref bG, .ref bW, .int uthr, .ref bH, .ref bO])), (bP, .inl (cP, 42, .inl uplace)), (bR, .inl (cR, 42, .inl urow)), (bS, .inl (cS, 2, .inl upts)), (bT, .inl (cT, 2, .inl utks)), (bG, .inl (cG, 2, .inl uglv)), (bW, .inl (cW, 2, .inl uwin)), (bH, .inl (cH, 12, .inl (j_X3_laysHands_11_uheld uplace 1 (42) 0 0 (j_X3_laysHands_11_uheld uplace 0 (42) 0 0 uheld)))), (bO, .inl (cO, 8192, .inl utab))] := hD
  refine lv_iinc (v := 2) (lv' := [(1, .int 2), (2, .int (j_X3_laysHands_11_y2 uplace 1 (42) 0 0 (j_X3_laysHands_11_uheld uplace 0 (42) 0 0 uheld))), (0, .ref b0)]) hx hb dX3_laysHands_48 hl (k := 2) rfl (by decide) (by decide) rfl (fun ls hl => ?_)
  refine lv_goto (tgt := 2) hx hb dX3_laysHands_51 (by decide) ?_
  refine lv_iload_n hx hb dX3_laysHands_2 rfl (lv_at hl 0 rfl) ?_
  refine lv_iconst (v := 2) hx hb dX3_laysHands_3 (by decide) ?_
  refine lv_icmp_ge (tgt := 54) hx hb dX3_laysHands_4 (by decide) (fun _ => ?_) (fun c_ => absurd (by decide) c_)
  exact jw_vret hx hb hr hlocks hK hP hD hS dX3_laysHands_54 (by  simp only [j_X3_laysHands_uheld])

abbrev rX3_laysTable : Room := { frames := 6, cells := 0, slots := 0, locals := 150 }
def j_X3_laysTable_34_utab (utr : Int32) (o : Nat) (zheld : Nat → Int32) : Nat → Nat → (Nat → Int32) → (Nat → Int32)
  | 0, i, zutab => zutab
  | n + 1, i, zutab => (if j_X3_many (nI o) = j_X3_many (nI i) then j_X3_laysTable_34_utab utr o zheld n (i + 1) (upd (upd zutab ((64 * (nI o)) + (nI i)).toNatClampNeg (j_X3_mostOf zheld zutab utr 0 (nI o) (nI i) 0)) ((4096 + (64 * (nI o))) + (nI i)).toNatClampNeg (j_X3_mostOf zheld (upd zutab ((64 * (nI o)) + (nI i)).toNatClampNeg (j_X3_mostOf zheld zutab utr 0 (nI o) (nI i) 0)) utr 1 (nI i) (nI o) 0)) else j_X3_laysTable_34_utab utr o zheld n (i + 1) zutab)
def j_X3_laysTable_26_utab (utr : Int32) (kB : Nat) (zheld : Nat → Int32) : Nat → Nat → (Nat → Int32) → (Nat → Int32)
  | 0, i, zutab => zutab
  | n + 1, i, zutab => j_X3_laysTable_26_utab utr kB zheld n (i + 1) (j_X3_laysTable_34_utab utr i zheld (kB + 1) 0 zutab)
def j_X3_laysTable_uheld (uplace : Nat → Int32) (uheld : Nat → Int32) : Nat → Int32 := j_X3_laysHands_uheld uplace uheld
def j_X3_laysTable_utab (uplace : Nat → Int32) (uheld : Nat → Int32) (utab : Nat → Int32) (utr : Int32) (kA : Nat) (kB : Nat) : Nat → Int32 := j_X3_laysTable_26_utab utr kB (j_X3_laysHands_uheld uplace uheld) (kA + 1) 0 utab
theorem inX3_laysTable_X3 : ∀ w ∈ u_ws RX3 TX3 15, w ∈ wsX3_laysTable := by decide +kernel
set_option maxRecDepth 100000 in
set_option maxHeartbeats 8000000 in
theorem c_X3_laysTable {l : Launch} {D : va_G} (b0 : Nat) (bP : Nat) (bR : Nat) (bS : Nat) (bT : Nat) (bG : Nat) (bW : Nat) (bH : Nat) (bO : Nat) (cP : ClassId) (cR : ClassId) (cS : ClassId) (cT : ClassId) (cG : ClassId) (cW : ClassId) (cH : ClassId) (cO : ClassId) (uplace : Nat → Int32) (urow : Nat → Int32) (upts : Nat → Int32) (utks : Nat → Int32) (uglv : Nat → Int32) (uwin : Nat → Int32) (uheld : Nat → Int32) (utab : Nat → Int32) (udrawn : Int32) (udealt : Int32) (uon : Int32) (uturn : Int32) (uled : Int32) (utr : Int32) (uthr : Int32) (kA : Nat) (kB : Nat) (h6a : jx_cnt uplace 0 42 0 ≤ 6) (h6b : jx_cnt uplace 1 42 0 ≤ 6) (hEA : ((1 : Int32) <<< ((j_X3_howMany uplace udealt 0) &&& 31)) - 1 = nI kA) (hEB : ((1 : Int32) <<< ((j_X3_howMany uplace udealt 1) &&& 31)) - 1 = nI kB) (hA6 : kA < 64) (hB6 : kB < 64) : jWv l yX3_laysTable wsX3_laysTable rX3_laysTable D [.ref b0] (jM b0 bP bR bS bT bG bW bH bO cP cR cS cT cG cW cH cO uplace urow upts utks uglv uwin uheld utab udrawn udealt uon uturn uled utr uthr) [(cP, .int), (cR, .int), (cS, .int), (cT, .int), (cG, .int), (cW, .int), (cH, .int), (cO, .int)] (jM b0 bP bR bS bT bG bW bH bO cP cR cS cT cG cW cH cO uplace urow upts utks uglv uwin (j_X3_laysTable_uheld uplace uheld) (j_X3_laysTable_utab uplace uheld utab utr kA kB) udrawn udealt uon uturn uled utr uthr) := by
  refine jW_of (QQ := fun A => (jQv D (jM b0 bP bR bS bT bG bW bH bO cP cR cS cT cG cW cH cO uplace urow upts utks uglv uwin (j_X3_laysTable_uheld uplace uheld) (j_X3_laysTable_utab uplace uheld utab utr kA kB) udrawn udealt uon uturn uled utr uthr) [(cP, .int), (cR, .int), (cS, .int), (cT, .int), (cG, .int), (cW, .int), (cH, .int), (cO, .int)] A)) (cc := cX3_laysTable) (maxL := 5) (ret := none) (by decide) rfl (Nat.le_of_ble_eq_true rfl) ?_
  intro p e s m below meth c ls A S hr hlocks hini hP hK hN hD hS hA hl
  obtain ⟨hx, hb, hml, hown, hts⟩ := id S
  have hl : lv_has ls 5 [(0, .ref b0)] := hl
  have loop34 : ∀ (o : Nat) (zheld : Nat → Int32) (ho : o ≤ kA) (n i : Nat) (zutab : Nat → Int32), i + n = kB + 1 → ∀ (H : Heap) (locs : List Loc), va_P D vwCl [(b0, .inr (3, [.ref bP, .ref bR, .int udrawn, .int udealt, .int uon, .int uturn, .int uled, .int utr, .ref bS, .ref bT, .ref bG, .ref bW, .int uthr, .ref bH, .ref bO])), (bP, .inl (cP, 42, .inl uplace)), (bR, .inl (cR, 42, .inl urow)), (bS, .inl (cS, 2, .inl upts)), (bT, .inl (cT, 2, .inl utks)), (bG, .inl (cG, 2, .inl uglv)), (bW, .inl (cW, 2, .inl uwin)), (bH, .inl (cH, 12, .inl zheld)), (bO, .inl (cO, 8192, .inl zutab))] H → va_D A [(b0, .inr (3, [.ref bP, .ref bR, .int udrawn, .int udealt, .int uon, .int uturn, .int uled, .int utr, .ref bS, .ref bT, .ref bG, .ref bW, .int uthr, .ref bH, .ref bO])), (bP, .inl (cP, 42, .inl uplace)), (bR, .inl (cR, 42, .inl urow)), (bS, .inl (cS, 2, .inl upts)), (bT, .inl (cT, 2, .inl utks)), (bG, .inl (cG, 2, .inl uglv)), (bW, .inl (cW, 2, .inl uwin)), (bH, .inl (cH, 12, .inl zheld)), (bO, .inl (cO, 8192, .inl zutab))] → va_S A s.heap H locs → ∀ (ls : Array Slot), lv_has ls 5 [(4, .int (nI i)), (0, .ref b0), (1, .int (nI kA)), (2, .int (nI kB)), (3, .int (nI o))] → (∀ (H : Heap) (locs : List Loc), va_P D vwCl [(b0, .inr (3, [.ref bP, .ref bR, .int udrawn, .int udealt, .int uon, .int uturn, .int uled, .int utr, .ref bS, .ref bT, .ref bG, .ref bW, .int uthr, .ref bH, .ref bO])), (bP, .inl (cP, 42, .inl uplace)), (bR, .inl (cR, 42, .inl urow)), (bS, .inl (cS, 2, .inl upts)), (bT, .inl (cT, 2, .inl utks)), (bG, .inl (cG, 2, .inl uglv)), (bW, .inl (cW, 2, .inl uwin)), (bH, .inl (cH, 12, .inl zheld)), (bO, .inl (cO, 8192, .inl (j_X3_laysTable_34_utab utr o zheld n i zutab)))] H → va_D A [(b0, .inr (3, [.ref bP, .ref bR, .int udrawn, .int udealt, .int uon, .int uturn, .int uled, .int utr, .ref bS, .ref bT, .ref bG, .ref bW, .int uthr, .ref bH, .ref bO])), (bP, .inl (cP, 42, .inl uplace)), (bR, .inl (cR, 42, .inl urow)), (bS, .inl (cS, 2, .inl upts)), (bT, .inl (cT, 2, .inl utks)), (bG, .inl (cG, 2, .inl uglv)), (bW, .inl (cW, 2, .inl uwin)), (bH, .inl (cH, 12, .inl zheld)), (bO, .inl (cO, 8192, .inl (j_X3_laysTable_34_utab utr o zheld n i zutab)))] → va_S A s.heap H locs → ∀ (ls : Array Slot), lv_has ls 5 [(0, .ref b0), (1, .int (nI kA)), (2, .int (nI kB)), (3, .int (nI o))] → W p l e rX3_laysTable s m ([.ref b0] : List Value).toArray below meth c H locs 0 0 (MQ below (jQv D (jM b0 bP bR bS bT bG bW bH bO cP cR cS cT cG cW cH cO uplace urow upts utks uglv uwin (j_X3_laysTable_uheld uplace uheld) (j_X3_laysTable_utab uplace uheld utab utr kA kB) udrawn udealt uon uturn uled utr uthr) [(cP, .int), (cR, .int), (cS, .int), (cT, .int), (cG, .int), (cW, .int), (cH, .int), (cO, .int)] A) ([.ref b0] : List Value).toArray s 0 0 A) (F0 m 104 ls [])) → W p l e rX3_laysTable s m ([.ref b0] : List Value).toArray below meth c H locs 0 0 (MQ below (jQv D (jM b0 bP bR bS bT bG bW bH bO cP cR cS cT cG cW cH cO uplace urow upts utks uglv uwin (j_X3_laysTable_uheld uplace uheld) (j_X3_laysTable_utab uplace uheld utab utr kA kB) udrawn udealt uon uturn uled utr uthr) [(cP, .int), (cR, .int), (cS, .int), (cT, .int), (cG, .int), (cW, .int), (cH, .int), (cO, .int)] A) ([.ref b0] : List Value).toArray s 0 0 A) (F0 m 34 ls []) := by
    intro o zheld ho n
    induction n with
    | zero =>
      intro i zutab hin  H locs hP hD hS ls hl K
      have hlt : nI kB < nI i := nI_lt (by omega) (by omega)
      refine lv_iload hx hb dX3_laysTable_34 (lv_at hl 0 rfl) ?_
      refine lv_iload_n hx hb dX3_laysTable_36 rfl (lv_at hl 3 rfl) ?_
      refine lv_icmp_gt (tgt := 104) hx hb dX3_laysTable_37 (by decide) (fun _ => ?_) (fun c_ => absurd hlt c_)
      simp only [j_X3_laysTable_34_utab, if_pos hlt] at K
      exact K _ _ hP hD hS ls (lv_sub hl [1, 2, 3, 4] rfl)
    | succ n ih =>
      intro i zutab hin  H locs hP hD hS ls hl K
      have hlt : ¬ nI kB < nI i := nI_nlt (by omega) (by omega)
      refine lv_iload hx hb dX3_laysTable_34 (lv_at hl 0 rfl) ?_
      refine lv_iload_n hx hb dX3_laysTable_36 rfl (lv_at hl 3 rfl) ?_
      refine lv_icmp_gt (tgt := 104) hx hb dX3_laysTable_37 (by decide) (fun c_ => absurd c_ hlt) (fun _ => ?_)
      refine lv_iload_n hx hb dX3_laysTable_40 rfl (lv_at hl 4 rfl) ?_
      refine jr_callS (n := 1) (As := [.int (nI o)]) (rest := []) S (c_X3_many (nI o) (vp_in_nI (by omega) (by decide))) gX3_laysTable_X3_many rfl (by decide +kernel) rfl ⟨⟨rfl, rfl⟩, ⟨Nat.le_of_ble_eq_true rfl, Nat.le_of_ble_eq_true rfl⟩, Nat.le_of_ble_eq_true rfl, Nat.le_of_ble_eq_true rfl⟩ hP hK hN [] [] rfl rfl (lv_nil hl) rfl (Nat.le_of_ble_eq_true rfl) dX3_laysTable_41 ?_
      refine lv_iload hx hb dX3_laysTable_44 (lv_at hl 0 rfl) ?_
      refine jr_callS (n := 1) (As := [.int (nI i)]) (rest := [.int (j_X3_many (nI o))]) S (c_X3_many (nI i) (vp_in_nI (by omega) (by decide))) gX3_laysTable_X3_many rfl (by decide +kernel) rfl ⟨⟨rfl, rfl⟩, ⟨Nat.le_of_ble_eq_true rfl, Nat.le_of_ble_eq_true rfl⟩, Nat.le_of_ble_eq_true rfl, Nat.le_of_ble_eq_true rfl⟩ hP hK hN [] [] rfl rfl (lv_nil hl) rfl (Nat.le_of_ble_eq_true rfl) dX3_laysTable_46 ?_
      refine lv_icmp_ne (tgt := 98) hx hb dX3_laysTable_49 (by decide) (fun c_34001 => ?_) (fun c_34001 => ?_)
      · skip
        refine lv_iinc (v := nI (i + 1)) (lv' := [(4, .int (nI (i + 1))), (0, .ref b0), (1, .int (nI kA)), (2, .int (nI kB)), (3, .int (nI o))]) hx hb dX3_laysTable_98 hl (k := 0) rfl (nI_1 i) (by decide) rfl (fun ls hl => ?_)
        refine lv_goto (tgt := 34) hx hb dX3_laysTable_101 (by decide) ?_
        simp only [j_X3_laysTable_34_utab, if_neg hlt, if_neg c_34001] at K
        exact ih (i + 1) zutab (by omega) _ _ hP hD hS ls (lv_sub hl [0, 1, 2, 3, 4] rfl) K
      · skip
        refine lv_aload_n hx hb dX3_laysTable_52 rfl (lv_at hl 1 rfl) ?_
        refine va_get (D := D) (ci := 3) (v := .ref bO) (C := RX3) (T := TX3) (N := 15) hx hb hts inX3_laysTable_X3 hown hK hP 0 rfl rfl 14 (by decide) (hts (.fieldLink RX3 38 "ArchivistTricksModel" "worthOf" "[I") (by decide +kernel)) (fun _ h9 => h9) rfl dX3_laysTable_53 ?_
        refine lv_bipush (v := 64) hx hb dX3_laysTable_56 (by decide) ?_
        refine lv_iload_n hx hb dX3_laysTable_58 rfl (lv_at hl 4 rfl) ?_
        refine lv_imul hx hb dX3_laysTable_59 ?_
        refine lv_iload hx hb dX3_laysTable_60 (lv_at hl 0 rfl) ?_
        refine lv_iadd hx hb dX3_laysTable_62 ?_
        refine lv_aload_n hx hb dX3_laysTable_63 rfl (lv_at hl 1 rfl) ?_
        refine lv_iconst (v := 0) hx hb dX3_laysTable_64 (by decide) ?_
        refine lv_iload_n hx hb dX3_laysTable_65 rfl (lv_at hl 4 rfl) ?_
        refine lv_iload hx hb dX3_laysTable_66 (lv_at hl 0 rfl) ?_
        refine lv_iconst (v := 0) hx hb dX3_laysTable_68 (by decide) ?_
        refine jr_callV (n := 4) (C := RX3) (As := [.int 0, .int (nI o), .int (nI i), .int 0]) (rest := [.int ((64 * (nI o)) + (nI i)), .ref bO]) S (c_X3_mostOf b0 bP bR bS bT bG bW bH bO cP cR cS cT cG cW cH cO uplace urow upts utks uglv uwin zheld zutab udrawn udealt uon uturn uled utr uthr 0 (nI o) (nI i) 0 (Or.inl rfl) (vp_in_nI (by omega) (by decide)) (vp_in_nI (by omega) (by decide))) gX3_laysTable_X3_mostOf rfl (by decide +kernel) rfl ⟨⟨rfl, rfl⟩, ⟨Nat.le_of_ble_eq_true rfl, Nat.le_of_ble_eq_true rfl⟩, Nat.le_of_ble_eq_true rfl, Nat.le_of_ble_eq_true rfl⟩ hP hK hN [0, 1, 2, 3, 4, 5, 6, 7, 8] [0, 1, 2, 3, 4, 5, 6, 7] rfl rfl 0 3 rfl rfl rfl (lv_nil hl) rfl (Nat.le_of_ble_eq_true rfl) dX3_laysTable_69 ?_
        refine va_iast hx hb hK hP hD hS 8 7 rfl rfl (i := (64 * (nI o)) + (nI i)) (jx_t0 (by omega) (by omega)) dX3_laysTable_72 (fun H locs hP hD hS => ?_)
        have hP : va_P D vwCl [(b0, .inr (3, [.ref bP, .ref bR, .int udrawn, .int udealt, .int uon, .int uturn, .int uled, .int utr, .ref bS, .ref bT, .ref bG, .ref bW, .int uthr, .ref bH, .ref bO])), (bP, .inl (cP, 42, .inl uplace)), (bR, .inl (cR, 42, .inl urow)), (bS, .inl (cS, 2, .inl upts)), (bT, .inl (cT, 2, .inl utks)), (bG, .inl (cG, 2, .inl uglv)), (bW, .inl (cW, 2, .inl uwin)), (bH, .inl (cH, 12, .inl zheld)), (bO, .inl (cO, 8192, .inl (upd zutab ((64 * (nI o)) + (nI i)).toNatClampNeg (j_X3_mostOf zheld zutab utr 0 (nI o) (nI i) 0))))] H := hP
        have hD : va_D A [(b0, .inr (3, [.ref bP, .ref bR, .int udrawn, .int udealt, .int uon, .int uturn, .int uled, .int utr, .ref bS, .ref bT, .ref bG, .ref bW, .int uthr, .ref bH, .ref bO])), (bP, .inl (cP, 42, .inl uplace)), (bR, .inl (cR, 42, .inl urow)), (bS, .inl (cS, 2, .inl upts)), (bT, .inl (cT, 2, .inl utks)), (bG, .inl (cG, 2, .inl uglv)), (bW, .inl (cW, 2, .inl uwin)), (bH, .inl (cH, 12, .inl zheld)), (bO, .inl (cO, 8192, .inl (upd zutab ((64 * (nI o)) + (nI i)).toNatClampNeg (j_X3_mostOf zheld zutab utr 0 (nI o) (nI i) 0))))] := hD
        refine lv_aload_n hx hb dX3_laysTable_73 rfl (lv_at hl 1 rfl) ?_
        refine va_get (D := D) (ci := 3) (v := .ref bO) (C := RX3) (T := TX3) (N := 15) hx hb hts inX3_laysTable_X3 hown hK hP 0 rfl rfl 14 (by decide) (hts (.fieldLink RX3 38 "ArchivistTricksModel" "worthOf" "[I") (by decide +kernel)) (fun _ h9 => h9) rfl dX3_laysTable_74 ?_
        refine lv_sipush (v := 4096) hx hb dX3_laysTable_77 (by decide) ?_
        refine lv_bipush (v := 64) hx hb dX3_laysTable_80 (by decide) ?_
        refine lv_iload_n hx hb dX3_laysTable_82 rfl (lv_at hl 4 rfl) ?_
        refine lv_imul hx hb dX3_laysTable_83 ?_
        refine lv_iadd hx hb dX3_laysTable_84 ?_
        refine lv_iload hx hb dX3_laysTable_85 (lv_at hl 0 rfl) ?_
        refine lv_iadd hx hb dX3_laysTable_87 ?_
        refine lv_aload_n hx hb dX3_laysTable_88 rfl (lv_at hl 1 rfl) ?_
        refine lv_iconst (v := 1) hx hb dX3_laysTable_89 (by decide) ?_
        refine lv_iload hx hb dX3_laysTable_90 (lv_at hl 0 rfl) ?_
        refine lv_iload_n hx hb dX3_laysTable_92 rfl (lv_at hl 4 rfl) ?_
        refine lv_iconst (v := 0) hx hb dX3_laysTable_93 (by decide) ?_
        refine jr_callV (n := 4) (C := RX3) (As := [.int 1, .int (nI i), .int (nI o), .int 0]) (rest := [.int ((4096 + (64 * (nI o))) + (nI i)), .ref bO]) S (c_X3_mostOf b0 bP bR bS bT bG bW bH bO cP cR cS cT cG cW cH cO uplace urow upts utks uglv uwin zheld (upd zutab ((64 * (nI o)) + (nI i)).toNatClampNeg (j_X3_mostOf zheld zutab utr 0 (nI o) (nI i) 0)) udrawn udealt uon uturn uled utr uthr 1 (nI i) (nI o) 0 (Or.inr rfl) (vp_in_nI (by omega) (by decide)) (vp_in_nI (by omega) (by decide))) gX3_laysTable_X3_mostOf rfl (by decide +kernel) rfl ⟨⟨rfl, rfl⟩, ⟨Nat.le_of_ble_eq_true rfl, Nat.le_of_ble_eq_true rfl⟩, Nat.le_of_ble_eq_true rfl, Nat.le_of_ble_eq_true rfl⟩ hP hK hN [0, 1, 2, 3, 4, 5, 6, 7, 8] [0, 1, 2, 3, 4, 5, 6, 7] rfl rfl 0 3 rfl rfl rfl (lv_nil hl) rfl (Nat.le_of_ble_eq_true rfl) dX3_laysTable_94 ?_
        refine va_iast hx hb hK hP hD hS 8 7 rfl rfl (i := (4096 + (64 * (nI o))) + (nI i)) (jx_t1 (by omega) (by omega)) dX3_laysTable_97 (fun H locs hP hD hS => ?_)
        have hP : va_P D vwCl [(b0, .inr (3, [.ref bP, .ref bR, .int udrawn, .int udealt, .int uon, .int uturn, .int uled, .int utr, .ref bS, .ref bT, .ref bG, .ref bW, .int uthr, .ref bH, .ref bO])), (bP, .inl (cP, 42, .inl uplace)), (bR, .inl (cR, 42, .inl urow)), (bS, .inl (cS, 2, .inl upts)), (bT, .inl (cT, 2, .inl utks)), (bG, .inl (cG, 2, .inl uglv)), (bW, .inl (cW, 2, .inl uwin)), (bH, .inl (cH, 12, .inl zheld)), (bO, .inl (cO, 8192, .inl (upd (upd zutab ((64 * (nI o)) + (nI i)).toNatClampNeg (j_X3_mostOf zheld zutab utr 0 (nI o) (nI i) 0)) ((4096 + (64 * (nI o))) + (nI i)).toNatClampNeg (j_X3_mostOf zheld (upd zutab ((64 * (nI o)) + (nI i)).toNatClampNeg (j_X3_mostOf zheld zutab utr 0 (nI o) (nI i) 0)) utr 1 (nI i) (nI o) 0))))] H := hP
        have hD : va_D A [(b0, .inr (3, [.ref bP, .ref bR, .int udrawn, .int udealt, .int uon, .int uturn, .int uled, .int utr, .ref bS, .ref bT, .ref bG, .ref bW, .int uthr, .ref bH, .ref bO])), (bP, .inl (cP, 42, .inl uplace)), (bR, .inl (cR, 42, .inl urow)), (bS, .inl (cS, 2, .inl upts)), (bT, .inl (cT, 2, .inl utks)), (bG, .inl (cG, 2, .inl uglv)), (bW, .inl (cW, 2, .inl uwin)), (bH, .inl (cH, 12, .inl zheld)), (bO, .inl (cO, 8192, .inl (upd (upd zutab ((64 * (nI o)) + (nI i)).toNatClampNeg (j_X3_mostOf zheld zutab utr 0 (nI o) (nI i) 0)) ((4096 + (64 * (nI o))) + (nI i)).toNatClampNeg (j_X3_mostOf zheld (upd zutab ((64 * (nI o)) + (nI i)).toNatClampNeg (j_X3_mostOf zheld zutab utr 0 (nI o) (nI i) 0)) utr 1 (nI i) (nI o) 0))))] := hD
        refine lv_iinc (v := nI (i + 1)) (lv' := [(4, .int (nI (i + 1))), (0, .ref b0), (1, .int (nI kA)), (2, .int (nI kB)), (3, .int (nI o))]) hx hb dX3_laysTable_98 hl (k := 0) rfl (nI_1 i) (by decide) rfl (fun ls hl => ?_)
        refine lv_goto (tgt := 34) hx hb dX3_laysTable_101 (by decide) ?_
        simp only [j_X3_laysTable_34_utab, if_neg hlt, if_pos c_34001] at K
        exact ih (i + 1) (upd (upd zutab ((64 * (nI o)) + (nI i)).toNatClampNeg (j_X3_mostOf zheld zutab utr 0 (nI o) (nI i) 0)) ((4096 + (64 * (nI o))) + (nI i)).toNatClampNeg (j_X3_mostOf zheld (upd zutab ((64 * (nI o)) + (nI i)).toNatClampNeg (j_X3_mostOf zheld zutab utr 0 (nI o) (nI i) 0)) utr 1 (nI i) (nI o) 0)) (by omega) _ _ hP hD hS ls (lv_sub hl [0, 1, 2, 3, 4] rfl) K
  have loop26 : ∀ (zheld : Nat → Int32) (n i : Nat) (zutab : Nat → Int32), i + n = kA + 1 → ∀ (H : Heap) (locs : List Loc), va_P D vwCl [(b0, .inr (3, [.ref bP, .ref bR, .int udrawn, .int udealt, .int uon, .int uturn, .int uled, .int utr, .ref bS, .ref bT, .ref bG, .ref bW, .int uthr, .ref bH, .ref bO])), (bP, .inl (cP, 42, .inl uplace)), (bR, .inl (cR, 42, .inl urow)), (bS, .inl (cS, 2, .inl upts)), (bT, .inl (cT, 2, .inl utks)), (bG, .inl (cG, 2, .inl uglv)), (bW, .inl (cW, 2, .inl uwin)), (bH, .inl (cH, 12, .inl zheld)), (bO, .inl (cO, 8192, .inl zutab))] H → va_D A [(b0, .inr (3, [.ref bP, .ref bR, .int udrawn, .int udealt, .int uon, .int uturn, .int uled, .int utr, .ref bS, .ref bT, .ref bG, .ref bW, .int uthr, .ref bH, .ref bO])), (bP, .inl (cP, 42, .inl uplace)), (bR, .inl (cR, 42, .inl urow)), (bS, .inl (cS, 2, .inl upts)), (bT, .inl (cT, 2, .inl utks)), (bG, .inl (cG, 2, .inl uglv)), (bW, .inl (cW, 2, .inl uwin)), (bH, .inl (cH, 12, .inl zheld)), (bO, .inl (cO, 8192, .inl zutab))] → va_S A s.heap H locs → ∀ (ls : Array Slot), lv_has ls 5 [(3, .int (nI i)), (0, .ref b0), (1, .int (nI kA)), (2, .int (nI kB))] → (∀ (H : Heap) (locs : List Loc), va_P D vwCl [(b0, .inr (3, [.ref bP, .ref bR, .int udrawn, .int udealt, .int uon, .int uturn, .int uled, .int utr, .ref bS, .ref bT, .ref bG, .ref bW, .int uthr, .ref bH, .ref bO])), (bP, .inl (cP, 42, .inl uplace)), (bR, .inl (cR, 42, .inl urow)), (bS, .inl (cS, 2, .inl upts)), (bT, .inl (cT, 2, .inl utks)), (bG, .inl (cG, 2, .inl uglv)), (bW, .inl (cW, 2, .inl uwin)), (bH, .inl (cH, 12, .inl zheld)), (bO, .inl (cO, 8192, .inl (j_X3_laysTable_26_utab utr kB zheld n i zutab)))] H → va_D A [(b0, .inr (3, [.ref bP, .ref bR, .int udrawn, .int udealt, .int uon, .int uturn, .int uled, .int utr, .ref bS, .ref bT, .ref bG, .ref bW, .int uthr, .ref bH, .ref bO])), (bP, .inl (cP, 42, .inl uplace)), (bR, .inl (cR, 42, .inl urow)), (bS, .inl (cS, 2, .inl upts)), (bT, .inl (cT, 2, .inl utks)), (bG, .inl (cG, 2, .inl uglv)), (bW, .inl (cW, 2, .inl uwin)), (bH, .inl (cH, 12, .inl zheld)), (bO, .inl (cO, 8192, .inl (j_X3_laysTable_26_utab utr kB zheld n i zutab)))] → va_S A s.heap H locs → ∀ (ls : Array Slot), lv_has ls 5 [(0, .ref b0), (1, .int (nI kA)), (2, .int (nI kB))] → W p l e rX3_laysTable s m ([.ref b0] : List Value).toArray below meth c H locs 0 0 (MQ below (jQv D (jM b0 bP bR bS bT bG bW bH bO cP cR cS cT cG cW cH cO uplace urow upts utks uglv uwin (j_X3_laysTable_uheld uplace uheld) (j_X3_laysTable_utab uplace uheld utab utr kA kB) udrawn udealt uon uturn uled utr uthr) [(cP, .int), (cR, .int), (cS, .int), (cT, .int), (cG, .int), (cW, .int), (cH, .int), (cO, .int)] A) ([.ref b0] : List Value).toArray s 0 0 A) (F0 m 110 ls [])) → W p l e rX3_laysTable s m ([.ref b0] : List Value).toArray below meth c H locs 0 0 (MQ below (jQv D (jM b0 bP bR bS bT bG bW bH bO cP cR cS cT cG cW cH cO uplace urow upts utks uglv uwin (j_X3_laysTable_uheld uplace uheld) (j_X3_laysTable_utab uplace uheld utab utr kA kB) udrawn udealt uon uturn uled utr uthr) [(cP, .int), (cR, .int), (cS, .int), (cT, .int), (cG, .int), (cW, .int), (cH, .int), (cO, .int)] A) ([.ref b0] : List Value).toArray s 0 0 A) (F0 m 26 ls []) := by
    intro zheld n
    induction n with
    | zero =>
      intro i zutab hin  H locs hP hD hS ls hl K
      have hlt : nI kA < nI i := nI_lt (by omega) (by omega)
      refine lv_iload_n hx hb dX3_laysTable_26 rfl (lv_at hl 0 rfl) ?_
      refine lv_iload_n hx hb dX3_laysTable_27 rfl (lv_at hl 2 rfl) ?_
      refine lv_icmp_gt (tgt := 110) hx hb dX3_laysTable_28 (by decide) (fun _ => ?_) (fun c_ => absurd hlt c_)
      simp only [j_X3_laysTable_26_utab, if_pos hlt] at K
      exact K _ _ hP hD hS ls (lv_sub hl [1, 2, 3] rfl)
    | succ n ih =>
      intro i zutab hin  H locs hP hD hS ls hl K
      have hlt : ¬ nI kA < nI i := nI_nlt (by omega) (by omega)
      refine lv_iload_n hx hb dX3_laysTable_26 rfl (lv_at hl 0 rfl) ?_
      refine lv_iload_n hx hb dX3_laysTable_27 rfl (lv_at hl 2 rfl) ?_
      refine lv_icmp_gt (tgt := 110) hx hb dX3_laysTable_28 (by decide) (fun c_ => absurd c_ hlt) (fun _ => ?_)
      refine lv_iconst (v := 0) hx hb dX3_laysTable_31 (by decide) ?_
      refine lv_istore (lv' := [(4, .int 0), (3, .int (nI i)), (0, .ref b0), (1, .int (nI kA)), (2, .int (nI kB))]) hx hb dX3_laysTable_32 hl (by decide) rfl (fun ls hl => ?_)
      refine loop34 i zheld (by omega) (kB + 1) 0 zutab (by omega) _ _ hP hD hS ls (lv_sub (l' := [(4, .int (nI 0)), (0, .ref b0), (1, .int (nI kA)), (2, .int (nI kB)), (3, .int (nI i))]) hl [0, 2, 3, 4, 1] rfl) (fun H locs hP hD hS ls hl => ?_)
      have hl : lv_has ls 5 [(0, .ref b0), (1, .int (nI kA)), (2, .int (nI kB)), (3, .int (nI i))] := hl
      have hP : va_P D vwCl [(b0, .inr (3, [.ref bP, .ref bR, .int udrawn, .int udealt, .int uon, .int uturn, .int uled, .int utr, .ref bS, .ref bT, .ref bG, .ref bW, .int uthr, .ref bH, .ref bO])), (bP, .inl (cP, 42, .inl uplace)), (bR, .inl (cR, 42, .inl urow)), (bS, .inl (cS, 2, .inl upts)), (bT, .inl (cT, 2, .inl utks)), (bG, .inl (cG, 2, .inl uglv)), (bW, .inl (cW, 2, .inl uwin)), (bH, .inl (cH, 12, .inl zheld)), (bO, .inl (cO, 8192, .inl (j_X3_laysTable_34_utab utr i zheld (kB + 1) 0 zutab)))] H := hP
      have hD : va_D A [(b0, .inr (3, [.ref bP, .ref bR, .int udrawn, .int udealt, .int uon, .int uturn, .int uled, .int utr, .ref bS, .ref bT, .ref bG, .ref bW, .int uthr, .ref bH, .ref bO])), (bP, .inl (cP, 42, .inl uplace)), (bR, .inl (cR, 42, .inl urow)), (bS, .inl (cS, 2, .inl upts)), (bT, .inl (cT, 2, .inl utks)), (bG, .inl (cG, 2, .inl uglv)), (bW, .inl (cW, 2, .inl uwin)), (bH, .inl (cH, 12, .inl zheld)), (bO, .inl (cO, 8192, .inl (j_X3_laysTable_34_utab utr i zheld (kB + 1) 0 zutab)))] := hD
      refine lv_iinc (v := nI (i + 1)) (lv' := [(3, .int (nI (i + 1))), (0, .ref b0), (1, .int (nI kA)), (2, .int (nI kB))]) hx hb dX3_laysTable_104 hl (k := 3) rfl (nI_1 i) (by decide) rfl (fun ls hl => ?_)
      refine lv_goto (tgt := 26) hx hb dX3_laysTable_107 (by decide) ?_
      simp only [j_X3_laysTable_26_utab, if_neg hlt] at K
      exact ih (i + 1) (j_X3_laysTable_34_utab utr i zheld (kB + 1) 0 zutab) (by omega) _ _ hP hD hS ls (lv_sub hl [0, 1, 2, 3] rfl) K
  refine lv_aload_n hx hb dX3_laysTable_0 rfl (lv_at hl 0 rfl) ?_
  refine jw_callVv (n := 0) (C := RX3) (As := []) (rest := []) (wr := []) (wn := [(b0, .inr (3, [.ref bP, .ref bR, .int udrawn, .int udealt, .int uon, .int uturn, .int uled, .int utr, .ref bS, .ref bT, .ref bG, .ref bW, .int uthr, .ref bH, .ref bO])), (bP, .inl (cP, 42, .inl uplace)), (bR, .inl (cR, 42, .inl urow)), (bS, .inl (cS, 2, .inl upts)), (bT, .inl (cT, 2, .inl utks)), (bG, .inl (cG, 2, .inl uglv)), (bW, .inl (cW, 2, .inl uwin)), (bH, .inl (cH, 12, .inl (j_X3_laysHands_uheld uplace uheld))), (bO, .inl (cO, 8192, .inl utab))]) S (c_X3_laysHands b0 bP bR bS bT bG bW bH bO cP cR cS cT cG cW cH cO uplace urow upts utks uglv uwin uheld utab udrawn udealt uon uturn uled utr uthr h6a h6b) gX3_laysTable_X3_laysHands rfl (by decide +kernel) rfl ⟨⟨rfl, rfl⟩, ⟨Nat.le_of_ble_eq_true rfl, Nat.le_of_ble_eq_true rfl⟩, Nat.le_of_ble_eq_true rfl, Nat.le_of_ble_eq_true rfl⟩ hP hK hN hD hS hA [0, 1, 2, 3, 4, 5, 6, 7, 8] [] [0, 1, 2, 3, 4, 5, 6, 7, 8] [0, 1, 2, 3, 4, 5, 6, 7] rfl rfl ⟨rfl, rfl, rfl⟩ (by decide) rfl rfl 0 3 rfl rfl rfl (lv_nil hl) rfl (Nat.le_of_ble_eq_true rfl) dX3_laysTable_1 (fun H locs hP hD hS => ?_)
  refine lv_iconst (v := 1) hx hb dX3_laysTable_4 (by decide) ?_
  refine lv_aload_n hx hb dX3_laysTable_5 rfl (lv_at hl 0 rfl) ?_
  refine lv_iconst (v := 0) hx hb dX3_laysTable_6 (by decide) ?_
  refine jr_callV (n := 1) (C := RX3) (As := [.int 0]) (rest := [.int 1]) S (c_X3_howMany b0 bP bR bS bT bG bW bH bO cP cR cS cT cG cW cH cO uplace urow upts utks uglv uwin (j_X3_laysHands_uheld uplace uheld) utab udrawn udealt uon uturn uled utr uthr 0) gX3_laysTable_X3_howMany rfl (by decide +kernel) rfl ⟨⟨rfl, rfl⟩, ⟨Nat.le_of_ble_eq_true rfl, Nat.le_of_ble_eq_true rfl⟩, Nat.le_of_ble_eq_true rfl, Nat.le_of_ble_eq_true rfl⟩ hP hK hN [0, 1, 2, 3, 4, 5, 6, 7, 8] [0, 1, 2, 3, 4, 5, 6, 7] rfl rfl 0 3 rfl rfl rfl (lv_nil hl) rfl (Nat.le_of_ble_eq_true rfl) dX3_laysTable_7 ?_
  refine lv_ishl hx hb dX3_laysTable_10 ?_
  refine lv_iconst (v := 1) hx hb dX3_laysTable_11 (by decide) ?_
  refine lv_isub hx hb dX3_laysTable_12 ?_
  rw [hEA]
  refine lv_istore_n (lv' := [(1, .int (nI kA)), (0, .ref b0)]) hx hb dX3_laysTable_13 rfl hl (by decide) rfl (fun ls hl => ?_)
  refine lv_iconst (v := 1) hx hb dX3_laysTable_14 (by decide) ?_
  refine lv_aload_n hx hb dX3_laysTable_15 rfl (lv_at hl 1 rfl) ?_
  refine lv_iconst (v := 1) hx hb dX3_laysTable_16 (by decide) ?_
  refine jr_callV (n := 1) (C := RX3) (As := [.int 1]) (rest := [.int 1]) S (c_X3_howMany b0 bP bR bS bT bG bW bH bO cP cR cS cT cG cW cH cO uplace urow upts utks uglv uwin (j_X3_laysHands_uheld uplace uheld) utab udrawn udealt uon uturn uled utr uthr 1) gX3_laysTable_X3_howMany rfl (by decide +kernel) rfl ⟨⟨rfl, rfl⟩, ⟨Nat.le_of_ble_eq_true rfl, Nat.le_of_ble_eq_true rfl⟩, Nat.le_of_ble_eq_true rfl, Nat.le_of_ble_eq_true rfl⟩ hP hK hN [0, 1, 2, 3, 4, 5, 6, 7, 8] [0, 1, 2, 3, 4, 5, 6, 7] rfl rfl 0 3 rfl rfl rfl (lv_nil hl) rfl (Nat.le_of_ble_eq_true rfl) dX3_laysTable_17 ?_
  refine lv_ishl hx hb dX3_laysTable_20 ?_
  refine lv_iconst (v := 1) hx hb dX3_laysTable_21 (by decide) ?_
  refine lv_isub hx hb dX3_laysTable_22 ?_
  rw [hEB]
  refine lv_istore_n (lv' := [(2, .int (nI kB)), (1, .int (nI kA)), (0, .ref b0)]) hx hb dX3_laysTable_23 rfl hl (by decide) rfl (fun ls hl => ?_)
  refine lv_iconst (v := 0) hx hb dX3_laysTable_24 (by decide) ?_
  refine lv_istore_n (lv' := [(3, .int 0), (2, .int (nI kB)), (1, .int (nI kA)), (0, .ref b0)]) hx hb dX3_laysTable_25 rfl hl (by decide) rfl (fun ls hl => ?_)
  refine loop26 (j_X3_laysHands_uheld uplace uheld) (kA + 1) 0 utab (by omega) _ _ hP hD hS ls (lv_sub (l' := [(3, .int (nI 0)), (0, .ref b0), (1, .int (nI kA)), (2, .int (nI kB))]) hl [0, 3, 2, 1] rfl) (fun H locs hP hD hS ls hl => ?_)
  have hl : lv_has ls 5 [(0, .ref b0), (1, .int (nI kA)), (2, .int (nI kB))] := hl
  have hP : va_P D vwCl [(b0, .inr (3, [.ref bP, .ref bR, .int udrawn, .int udealt, .int uon, .int uturn, .int uled, .int utr, .ref bS, .ref bT, .ref bG, .ref bW, .int uthr, .ref bH, .ref bO])), (bP, .inl (cP, 42, .inl uplace)), (bR, .inl (cR, 42, .inl urow)), (bS, .inl (cS, 2, .inl upts)), (bT, .inl (cT, 2, .inl utks)), (bG, .inl (cG, 2, .inl uglv)), (bW, .inl (cW, 2, .inl uwin)), (bH, .inl (cH, 12, .inl (j_X3_laysHands_uheld uplace uheld))), (bO, .inl (cO, 8192, .inl (j_X3_laysTable_26_utab utr kB (j_X3_laysHands_uheld uplace uheld) (kA + 1) 0 utab)))] H := hP
  have hD : va_D A [(b0, .inr (3, [.ref bP, .ref bR, .int udrawn, .int udealt, .int uon, .int uturn, .int uled, .int utr, .ref bS, .ref bT, .ref bG, .ref bW, .int uthr, .ref bH, .ref bO])), (bP, .inl (cP, 42, .inl uplace)), (bR, .inl (cR, 42, .inl urow)), (bS, .inl (cS, 2, .inl upts)), (bT, .inl (cT, 2, .inl utks)), (bG, .inl (cG, 2, .inl uglv)), (bW, .inl (cW, 2, .inl uwin)), (bH, .inl (cH, 12, .inl (j_X3_laysHands_uheld uplace uheld))), (bO, .inl (cO, 8192, .inl (j_X3_laysTable_26_utab utr kB (j_X3_laysHands_uheld uplace uheld) (kA + 1) 0 utab)))] := hD
  exact jw_vret hx hb hr hlocks hK hP hD hS dX3_laysTable_110 (by  simp only [j_X3_laysTable_uheld, j_X3_laysTable_utab])

