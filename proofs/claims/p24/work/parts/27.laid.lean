/-! P24: isLaidRight (laid by wip/p24/law.py) -/
theorem pq_acc {up : Nat → Int32} {v w i : Nat} (hw : w < 6) (hv : v < 6) (u : up i = nI v) : fb_ct (zl_p up w) (i + 1) = fb_ct (zl_p up w) i + (if v = w then 1 else 0) := by
  have k : zl_p up w i = decide (v = w) := by
    show decide (up i = nI w) = _
    rw [u]
    exact decide_eq_decide.mpr (zn_nI hw hv)
  rw [fb_ct_succ, k]
  by_cases q : v = w
  · simp [q]
  · simp [q]
theorem pq_lw : ∀ c, c < 42 → j_L_worth (nI c) = pq_val c := by decide +kernel
abbrev rL_isLaidRight : Room := { frames := 2, cells := 0, slots := 0, locals := 48 }
set_option maxRecDepth 100000 in
set_option maxHeartbeats 8000000 in
theorem c_L_isLaidRight {l : Launch} {D : va_G} (a0 : Nat) (aR : Nat) (aF : Nat) (aG : Nat) (cI : ClassId) (vrow : Nat → Int32) (vdrawn : Int32) (vtr : Int32) (vled : Int32) (vmov : Int32) (vw1 : Int32) (vw2 : Int32) (veo : Option Nat) (veb : Int32) (vh1 : Int64) (vt1 : Int64) (vp1 : Int32) (vk1 : Int32) (vg1 : Int32) (vh2 : Int64) (vt2 : Int64) (vp2 : Int32) (vk2 : Int32) (vg2 : Int32) (x0 : Int32) {up : Nat → Int32} {E : Nat} (hV : pq_V vdrawn vtr vled vmov vh1 vt1 vp1 vk1 vh2 vt2 vp2 vk2 x0 up E) : jR l yL_isLaidRight wsL_isLaidRight rL_isLaidRight D [.ref a0, .int x0] (jC a0 aR aF aG cI vrow vdrawn vtr vled vmov vw1 vw2 veo veb vh1 vt1 vp1 vk1 vg1 vh2 vt2 vp2 vk2 vg2) [(cI, .int)] (.int 1) := by
  obtain ⟨hpl, lo, ⟨g1, g2⟩, htr, ⟨n06, n16⟩, ⟨hE, hdr, hn2⟩, ⟨k0, k1, hk0, hk1, hk⟩, hpt, hmv⟩ := hV
  have part : zl_nn up 0 + zl_nn up 1 + zl_nn up 2 + zl_nn up 3 + zl_nn up 4 + zl_nn up 5 = 42 := pq_part (fun c hc => (hpl c hc).2)
  have hC0 : j_X2_cards vh1 vh2 0 = nI (zl_nn up 0) := pq_c0 vh2 g1
  have hC1 : j_X2_cards vh1 vh2 1 = nI (zl_nn up 1) := pq_c1 vh1 g2
  have hA0 : ¬ j_X2_isArchivist 0 = 0 := by decide
  have hA1 : ¬ j_X2_isArchivist 1 = 0 := by decide
  have hpile : j_X2_pile vdrawn = nI (30 - 2 * E) := by
    rw [hdr]
    show nI 42 - nI (12 + 2 * E) = _
    rw [pk_sub (by omega)]
    congr 1
    omega
  have hp2 : j_X2_pile vdrawn - j_X2_pile vdrawn / 2 * 2 = 0 := by
    rw [hpile, show (2 : Int32) = nI 2 from rfl, pk_rem (by omega) (by decide) (by decide), show (30 - 2 * E) % 2 = 0 by omega]
    rfl
  have h3 : (vled = (-1) ∧ zl_nn up 3 = 0) ∨ (∃ l, l < 42 ∧ vled = nI l ∧ zl_nn up 3 = 1) := by
    rcases lo with ⟨e, n3⟩ | ⟨l, hl, e, i3⟩
    · exact Or.inl ⟨e, fb_ct_zero.mpr (fun c hc => by simp [zl_p, n3 c hc])⟩
    · refine Or.inr ⟨l, hl, e, ?_⟩
      have z : fb_ct (fun k => if k = l then false else zl_p up 3 k) 42 = 0 := fb_ct_zero.mpr (fun c hc => by
        by_cases q : c = l
        · simp [q]
        · have : ¬ up c = nI 3 := fun e => q ((i3 c hc).mp e)
          simp [q, zl_p, this])
      have w := fb_ct_upd (zl_p up 3) false hl
      have y : zl_p up 3 l = true := decide_eq_true ((i3 l hl).mpr rfl)
      rw [z, y] at w
      have w2 : 0 + 1 = fb_ct (zl_p up 3) 42 + 0 := w
      show fb_ct (zl_p up 3) 42 = 1
      omega
  refine jR_of (cc := cL_isLaidRight) (maxL := 11) (ret := some .boolean) (by decide) rfl (Nat.le_of_ble_eq_true rfl) ?_
  intro p e s m below meth c ls S hr hlocks hP hK hN hl
  obtain ⟨hx, hb, hml, hown, hts⟩ := id S
  have hl : lv_has ls 11 [(0, .ref a0), (1, .int x0)] := hl

  have K3 : ∀ (ls : Array Slot), lv_has ls 11 [(7, .int 1), (2, .int (nI (zl_nn up 0 + zl_nn up 1))), (0, .ref a0)] → W p l e rL_isLaidRight s m ([.ref a0, .int x0] : List Value).toArray below meth c s.heap [] 0 0 (MQ below (k2_QcV (.int 1)) ([.ref a0, .int x0] : List Value).toArray s 0 0 (fun _ => False)) (F0 m 355 ls []) := by
    intro ls hl
    rcases hmv with ⟨m1, l1, z0, z1, zE⟩ | ⟨a, b, hab, m1, hq, hn1, hn6⟩
    · have c1 : ¬ 0 ≤ j_X2_led vled := by rw [l1]; decide
      have c2 : ¬ 0 ≤ j_X2_turn vmov := by rw [m1]; decide
      have c3 : nI (zl_nn up 0 + zl_nn up 1) = 0 := by rw [z0, z1]; rfl
      have c4 : j_X2_pile vdrawn = 0 := by rw [hpile, zE]; rfl
      refine lv_aload_n hx hb dL_isLaidRight_355 rfl (lv_at hl 2 rfl) ?_
      refine jr_callV (n := 0) (C := RX2) (As := []) (rest := []) S (c_X2_led a0 aR aF aG cI vrow vdrawn vtr vled vmov vw1 vw2 veo veb vh1 vt1 vp1 vk1 vg1 vh2 vt2 vp2 vk2 vg2) gL_isLaidRight_X2_led rfl (by decide +kernel) rfl ⟨⟨rfl, rfl⟩, ⟨Nat.le_of_ble_eq_true rfl, Nat.le_of_ble_eq_true rfl⟩, Nat.le_of_ble_eq_true rfl, Nat.le_of_ble_eq_true rfl⟩ hP hK hN [0, 1, 2, 3] [0] rfl rfl 0 2 rfl rfl rfl (lv_nil hl) rfl (Nat.le_of_ble_eq_true rfl) dL_isLaidRight_356 ?_
      refine lv_if_ge (tgt := 366) hx hb dL_isLaidRight_359 (by decide) (fun c_ => absurd c_ c1) (fun _ => ?_)
      refine lv_iconst (v := 1) hx hb dL_isLaidRight_362 (by decide) ?_
      refine lv_goto (tgt := 367) hx hb dL_isLaidRight_363 (by decide) ?_
      refine lv_istore (lv' := [(8, .int 1), (7, .int 1), (2, .int (nI (zl_nn up 0 + zl_nn up 1))), (0, .ref a0)]) hx hb dL_isLaidRight_367 hl (by decide) rfl (fun ls hl => ?_)
      refine lv_aload_n hx hb dL_isLaidRight_369 rfl (lv_at hl 3 rfl) ?_
      refine jr_callV (n := 0) (C := RX2) (As := []) (rest := []) S (c_X2_turn a0 aR aF aG cI vrow vdrawn vtr vled vmov vw1 vw2 veo veb vh1 vt1 vp1 vk1 vg1 vh2 vt2 vp2 vk2 vg2) gL_isLaidRight_X2_turn rfl (by decide +kernel) rfl ⟨⟨rfl, rfl⟩, ⟨Nat.le_of_ble_eq_true rfl, Nat.le_of_ble_eq_true rfl⟩, Nat.le_of_ble_eq_true rfl, Nat.le_of_ble_eq_true rfl⟩ hP hK hN [0, 1, 2, 3] [0] rfl rfl 0 2 rfl rfl rfl (lv_nil hl) rfl (Nat.le_of_ble_eq_true rfl) dL_isLaidRight_370 ?_
      refine lv_istore (lv' := [(9, .int (j_X2_turn vmov)), (8, .int 1), (7, .int 1), (2, .int (nI (zl_nn up 0 + zl_nn up 1))), (0, .ref a0)]) hx hb dL_isLaidRight_373 hl (by decide) rfl (fun ls hl => ?_)
      refine lv_iload hx hb dL_isLaidRight_375 (lv_at hl 2 rfl) ?_
      refine lv_if_eq (tgt := 455) hx hb dL_isLaidRight_377 (by decide) (fun c_ => absurd c_ (by decide)) (fun _ => ?_)
      refine lv_iload hx hb dL_isLaidRight_380 (lv_at hl 0 rfl) ?_
      refine lv_if_ge (tgt := 392) hx hb dL_isLaidRight_382 (by decide) (fun c_ => absurd c_ c2) (fun _ => ?_)
      refine lv_iload_n hx hb dL_isLaidRight_385 rfl (lv_at hl 3 rfl) ?_
      refine lv_if_ne (tgt := 455) hx hb dL_isLaidRight_386 (by decide) (fun c_ => absurd c3 c_) (fun _ => ?_)
      refine lv_goto (tgt := 420) hx hb dL_isLaidRight_389 (by decide) ?_
      refine lv_aload_n hx hb dL_isLaidRight_420 rfl (lv_at hl 4 rfl) ?_
      refine jr_callV (n := 0) (C := RX2) (As := []) (rest := []) S (c_X2_pile a0 aR aF aG cI vrow vdrawn vtr vled vmov vw1 vw2 veo veb vh1 vt1 vp1 vk1 vg1 vh2 vt2 vp2 vk2 vg2) gL_isLaidRight_X2_pile rfl (by decide +kernel) rfl ⟨⟨rfl, rfl⟩, ⟨Nat.le_of_ble_eq_true rfl, Nat.le_of_ble_eq_true rfl⟩, Nat.le_of_ble_eq_true rfl, Nat.le_of_ble_eq_true rfl⟩ hP hK hN [0, 1, 2, 3] [0] rfl rfl 0 2 rfl rfl rfl (lv_nil hl) rfl (Nat.le_of_ble_eq_true rfl) dL_isLaidRight_421 ?_
      refine lv_if_eq (tgt := 442) hx hb dL_isLaidRight_424 (by decide) (fun _ => ?_) (fun c_ => absurd c4 c_)
      refine lv_aload_n hx hb dL_isLaidRight_442 rfl (lv_at hl 4 rfl) ?_
      refine jr_callV (n := 0) (C := RX2) (As := []) (rest := []) S (c_X2_pile a0 aR aF aG cI vrow vdrawn vtr vled vmov vw1 vw2 veo veb vh1 vt1 vp1 vk1 vg1 vh2 vt2 vp2 vk2 vg2) gL_isLaidRight_X2_pile rfl (by decide +kernel) rfl ⟨⟨rfl, rfl⟩, ⟨Nat.le_of_ble_eq_true rfl, Nat.le_of_ble_eq_true rfl⟩, Nat.le_of_ble_eq_true rfl, Nat.le_of_ble_eq_true rfl⟩ hP hK hN [0, 1, 2, 3] [0] rfl rfl 0 2 rfl rfl rfl (lv_nil hl) rfl (Nat.le_of_ble_eq_true rfl) dL_isLaidRight_443 ?_
      refine lv_iconst (v := 2) hx hb dL_isLaidRight_446 (by decide) ?_
      refine lv_irem hx hb dL_isLaidRight_447 (by decide) ?_
      refine lv_if_ne (tgt := 455) hx hb dL_isLaidRight_448 (by decide) (fun c_ => absurd hp2 c_) (fun _ => ?_)
      refine lv_iconst (v := 1) hx hb dL_isLaidRight_451 (by decide) ?_
      refine lv_goto (tgt := 456) hx hb dL_isLaidRight_452 (by decide) ?_
      exact jr_zret hx hb hr hlocks dL_isLaidRight_456 rfl rfl
    · have ha : a < 2 := by omega
      have hT : ¬ j_X2_isArchivist (j_X2_turn vmov) = 0 := by
        rw [m1]
        have : ∀ a, a < 2 → ¬ j_X2_isArchivist (j_X2_turn (nI a)) = 0 := by decide
        exact this a ha
      have hTO : ¬ j_X2_isArchivist (1 - (j_X2_turn vmov)) = 0 := by
        rw [m1]
        have : ∀ a, a < 2 → ¬ j_X2_isArchivist (1 - (j_X2_turn (nI a))) = 0 := by decide
        exact this a ha
      have c2 : 0 ≤ j_X2_turn vmov := by rw [m1]; exact nI_pos' (show a < 2 ^ 31 by omega)
      have eA : j_X2_cards vh1 vh2 (j_X2_turn vmov) = nI (zl_nn up a) := by rw [m1]; exact pq_ca ha g1 g2
      have eB : j_X2_cards vh1 vh2 (1 - (j_X2_turn vmov)) = nI (zl_nn up b) := by
        rw [m1, show (1 - (j_X2_turn (nI a))) = nI b from zm_fl hab]; exact pq_ca (by omega) g1 g2
      have six : E < 15 → vled = (-1) → j_X2_cards vh1 vh2 1 = 6 := fun h1 h2 => by
        rw [hC1]
        have q := hn6 h1
        have r : zl_nn up a = zl_nn up b := by
          rcases hq with z | z
          · exact z.2
          · exact absurd h2 z.1
        have : zl_nn up 1 = 6 := by
          have : (a = 0 ∧ b = 1) ∨ (a = 1 ∧ b = 0) := by omega
          rcases this with ⟨e1, e2⟩ | ⟨e1, e2⟩
          · subst e1; subst e2; omega
          · subst e1; subst e2; omega
        rw [this]; rfl
      have c4 : ¬ j_X2_pile vdrawn = 0 → E < 15 := fun h => by
        rcases Nat.lt_or_ge E 15 with z | z
        · exact z
        · exact absurd (by rw [hpile, show E = 15 by omega]; rfl) h
      rcases h3 with ⟨l1, _⟩ | ⟨l9, hl9, l1, _⟩
      · have c1 : ¬ 0 ≤ j_X2_led vled := by rw [l1]; decide
        have c5 : j_X2_cards vh1 vh2 (j_X2_turn vmov) = (j_X2_cards vh1 vh2 (1 - (j_X2_turn vmov))) + 0 := by
          rw [eA, eB, Int32.add_zero]
          rcases hq with z | z
          · rw [z.2]
          · exact absurd l1 z.1
        by_cases c6 : j_X2_pile vdrawn = 0
        · skip
          refine lv_aload_n hx hb dL_isLaidRight_355 rfl (lv_at hl 2 rfl) ?_
          refine jr_callV (n := 0) (C := RX2) (As := []) (rest := []) S (c_X2_led a0 aR aF aG cI vrow vdrawn vtr vled vmov vw1 vw2 veo veb vh1 vt1 vp1 vk1 vg1 vh2 vt2 vp2 vk2 vg2) gL_isLaidRight_X2_led rfl (by decide +kernel) rfl ⟨⟨rfl, rfl⟩, ⟨Nat.le_of_ble_eq_true rfl, Nat.le_of_ble_eq_true rfl⟩, Nat.le_of_ble_eq_true rfl, Nat.le_of_ble_eq_true rfl⟩ hP hK hN [0, 1, 2, 3] [0] rfl rfl 0 2 rfl rfl rfl (lv_nil hl) rfl (Nat.le_of_ble_eq_true rfl) dL_isLaidRight_356 ?_
          refine lv_if_ge (tgt := 366) hx hb dL_isLaidRight_359 (by decide) (fun c_ => absurd c_ c1) (fun _ => ?_)
          refine lv_iconst (v := 1) hx hb dL_isLaidRight_362 (by decide) ?_
          refine lv_goto (tgt := 367) hx hb dL_isLaidRight_363 (by decide) ?_
          refine lv_istore (lv' := [(8, .int 1), (7, .int 1), (2, .int (nI (zl_nn up 0 + zl_nn up 1))), (0, .ref a0)]) hx hb dL_isLaidRight_367 hl (by decide) rfl (fun ls hl => ?_)
          refine lv_aload_n hx hb dL_isLaidRight_369 rfl (lv_at hl 3 rfl) ?_
          refine jr_callV (n := 0) (C := RX2) (As := []) (rest := []) S (c_X2_turn a0 aR aF aG cI vrow vdrawn vtr vled vmov vw1 vw2 veo veb vh1 vt1 vp1 vk1 vg1 vh2 vt2 vp2 vk2 vg2) gL_isLaidRight_X2_turn rfl (by decide +kernel) rfl ⟨⟨rfl, rfl⟩, ⟨Nat.le_of_ble_eq_true rfl, Nat.le_of_ble_eq_true rfl⟩, Nat.le_of_ble_eq_true rfl, Nat.le_of_ble_eq_true rfl⟩ hP hK hN [0, 1, 2, 3] [0] rfl rfl 0 2 rfl rfl rfl (lv_nil hl) rfl (Nat.le_of_ble_eq_true rfl) dL_isLaidRight_370 ?_
          refine lv_istore (lv' := [(9, .int (j_X2_turn vmov)), (8, .int 1), (7, .int 1), (2, .int (nI (zl_nn up 0 + zl_nn up 1))), (0, .ref a0)]) hx hb dL_isLaidRight_373 hl (by decide) rfl (fun ls hl => ?_)
          refine lv_iload hx hb dL_isLaidRight_375 (lv_at hl 2 rfl) ?_
          refine lv_if_eq (tgt := 455) hx hb dL_isLaidRight_377 (by decide) (fun c_ => absurd c_ (by decide)) (fun _ => ?_)
          refine lv_iload hx hb dL_isLaidRight_380 (lv_at hl 0 rfl) ?_
          refine lv_if_ge (tgt := 392) hx hb dL_isLaidRight_382 (by decide) (fun _ => ?_) (fun c_ => absurd c2 c_)
          refine lv_aload_n hx hb dL_isLaidRight_392 rfl (lv_at hl 4 rfl) ?_
          refine lv_iload hx hb dL_isLaidRight_393 (lv_at hl 0 rfl) ?_
          refine jr_callV (n := 1) (C := RX2) (As := [.int (j_X2_turn vmov)]) (rest := []) S (c_X2_cards a0 aR aF aG cI vrow vdrawn vtr vled vmov vw1 vw2 veo veb vh1 vt1 vp1 vk1 vg1 vh2 vt2 vp2 vk2 vg2 (j_X2_turn vmov) hT) gL_isLaidRight_X2_cards rfl (by decide +kernel) rfl ⟨⟨rfl, rfl⟩, ⟨Nat.le_of_ble_eq_true rfl, Nat.le_of_ble_eq_true rfl⟩, Nat.le_of_ble_eq_true rfl, Nat.le_of_ble_eq_true rfl⟩ hP hK hN [0, 1, 2, 3] [0] rfl rfl 0 2 rfl rfl rfl (lv_nil hl) rfl (Nat.le_of_ble_eq_true rfl) dL_isLaidRight_395 ?_
          refine lv_aload_n hx hb dL_isLaidRight_398 rfl (lv_at hl 4 rfl) ?_
          refine lv_iconst (v := 1) hx hb dL_isLaidRight_399 (by decide) ?_
          refine lv_iload hx hb dL_isLaidRight_400 (lv_at hl 0 rfl) ?_
          refine lv_isub hx hb dL_isLaidRight_402 ?_
          refine jr_callV (n := 1) (C := RX2) (As := [.int (1 - (j_X2_turn vmov))]) (rest := [.int (j_X2_cards vh1 vh2 (j_X2_turn vmov))]) S (c_X2_cards a0 aR aF aG cI vrow vdrawn vtr vled vmov vw1 vw2 veo veb vh1 vt1 vp1 vk1 vg1 vh2 vt2 vp2 vk2 vg2 (1 - (j_X2_turn vmov)) hTO) gL_isLaidRight_X2_cards rfl (by decide +kernel) rfl ⟨⟨rfl, rfl⟩, ⟨Nat.le_of_ble_eq_true rfl, Nat.le_of_ble_eq_true rfl⟩, Nat.le_of_ble_eq_true rfl, Nat.le_of_ble_eq_true rfl⟩ hP hK hN [0, 1, 2, 3] [0] rfl rfl 0 2 rfl rfl rfl (lv_nil hl) rfl (Nat.le_of_ble_eq_true rfl) dL_isLaidRight_403 ?_
          refine lv_iload hx hb dL_isLaidRight_406 (lv_at hl 1 rfl) ?_
          refine lv_if_eq (tgt := 415) hx hb dL_isLaidRight_408 (by decide) (fun c_ => absurd c_ (by decide)) (fun _ => ?_)
          refine lv_iconst (v := 0) hx hb dL_isLaidRight_411 (by decide) ?_
          refine lv_goto (tgt := 416) hx hb dL_isLaidRight_412 (by decide) ?_
          refine lv_iadd hx hb dL_isLaidRight_416 ?_
          refine lv_icmp_ne (tgt := 455) hx hb dL_isLaidRight_417 (by decide) (fun c_ => absurd c5 c_) (fun _ => ?_)
          refine lv_aload_n hx hb dL_isLaidRight_420 rfl (lv_at hl 4 rfl) ?_
          refine jr_callV (n := 0) (C := RX2) (As := []) (rest := []) S (c_X2_pile a0 aR aF aG cI vrow vdrawn vtr vled vmov vw1 vw2 veo veb vh1 vt1 vp1 vk1 vg1 vh2 vt2 vp2 vk2 vg2) gL_isLaidRight_X2_pile rfl (by decide +kernel) rfl ⟨⟨rfl, rfl⟩, ⟨Nat.le_of_ble_eq_true rfl, Nat.le_of_ble_eq_true rfl⟩, Nat.le_of_ble_eq_true rfl, Nat.le_of_ble_eq_true rfl⟩ hP hK hN [0, 1, 2, 3] [0] rfl rfl 0 2 rfl rfl rfl (lv_nil hl) rfl (Nat.le_of_ble_eq_true rfl) dL_isLaidRight_421 ?_
          refine lv_if_eq (tgt := 442) hx hb dL_isLaidRight_424 (by decide) (fun _ => ?_) (fun c_ => absurd c6 c_)
          refine lv_aload_n hx hb dL_isLaidRight_442 rfl (lv_at hl 4 rfl) ?_
          refine jr_callV (n := 0) (C := RX2) (As := []) (rest := []) S (c_X2_pile a0 aR aF aG cI vrow vdrawn vtr vled vmov vw1 vw2 veo veb vh1 vt1 vp1 vk1 vg1 vh2 vt2 vp2 vk2 vg2) gL_isLaidRight_X2_pile rfl (by decide +kernel) rfl ⟨⟨rfl, rfl⟩, ⟨Nat.le_of_ble_eq_true rfl, Nat.le_of_ble_eq_true rfl⟩, Nat.le_of_ble_eq_true rfl, Nat.le_of_ble_eq_true rfl⟩ hP hK hN [0, 1, 2, 3] [0] rfl rfl 0 2 rfl rfl rfl (lv_nil hl) rfl (Nat.le_of_ble_eq_true rfl) dL_isLaidRight_443 ?_
          refine lv_iconst (v := 2) hx hb dL_isLaidRight_446 (by decide) ?_
          refine lv_irem hx hb dL_isLaidRight_447 (by decide) ?_
          refine lv_if_ne (tgt := 455) hx hb dL_isLaidRight_448 (by decide) (fun c_ => absurd hp2 c_) (fun _ => ?_)
          refine lv_iconst (v := 1) hx hb dL_isLaidRight_451 (by decide) ?_
          refine lv_goto (tgt := 456) hx hb dL_isLaidRight_452 (by decide) ?_
          exact jr_zret hx hb hr hlocks dL_isLaidRight_456 rfl rfl
        · skip
          have c7 : j_X2_cards vh1 vh2 1 = 6 := six (c4 c6) l1
          refine lv_aload_n hx hb dL_isLaidRight_355 rfl (lv_at hl 2 rfl) ?_
          refine jr_callV (n := 0) (C := RX2) (As := []) (rest := []) S (c_X2_led a0 aR aF aG cI vrow vdrawn vtr vled vmov vw1 vw2 veo veb vh1 vt1 vp1 vk1 vg1 vh2 vt2 vp2 vk2 vg2) gL_isLaidRight_X2_led rfl (by decide +kernel) rfl ⟨⟨rfl, rfl⟩, ⟨Nat.le_of_ble_eq_true rfl, Nat.le_of_ble_eq_true rfl⟩, Nat.le_of_ble_eq_true rfl, Nat.le_of_ble_eq_true rfl⟩ hP hK hN [0, 1, 2, 3] [0] rfl rfl 0 2 rfl rfl rfl (lv_nil hl) rfl (Nat.le_of_ble_eq_true rfl) dL_isLaidRight_356 ?_
          refine lv_if_ge (tgt := 366) hx hb dL_isLaidRight_359 (by decide) (fun c_ => absurd c_ c1) (fun _ => ?_)
          refine lv_iconst (v := 1) hx hb dL_isLaidRight_362 (by decide) ?_
          refine lv_goto (tgt := 367) hx hb dL_isLaidRight_363 (by decide) ?_
          refine lv_istore (lv' := [(8, .int 1), (7, .int 1), (2, .int (nI (zl_nn up 0 + zl_nn up 1))), (0, .ref a0)]) hx hb dL_isLaidRight_367 hl (by decide) rfl (fun ls hl => ?_)
          refine lv_aload_n hx hb dL_isLaidRight_369 rfl (lv_at hl 3 rfl) ?_
          refine jr_callV (n := 0) (C := RX2) (As := []) (rest := []) S (c_X2_turn a0 aR aF aG cI vrow vdrawn vtr vled vmov vw1 vw2 veo veb vh1 vt1 vp1 vk1 vg1 vh2 vt2 vp2 vk2 vg2) gL_isLaidRight_X2_turn rfl (by decide +kernel) rfl ⟨⟨rfl, rfl⟩, ⟨Nat.le_of_ble_eq_true rfl, Nat.le_of_ble_eq_true rfl⟩, Nat.le_of_ble_eq_true rfl, Nat.le_of_ble_eq_true rfl⟩ hP hK hN [0, 1, 2, 3] [0] rfl rfl 0 2 rfl rfl rfl (lv_nil hl) rfl (Nat.le_of_ble_eq_true rfl) dL_isLaidRight_370 ?_
          refine lv_istore (lv' := [(9, .int (j_X2_turn vmov)), (8, .int 1), (7, .int 1), (2, .int (nI (zl_nn up 0 + zl_nn up 1))), (0, .ref a0)]) hx hb dL_isLaidRight_373 hl (by decide) rfl (fun ls hl => ?_)
          refine lv_iload hx hb dL_isLaidRight_375 (lv_at hl 2 rfl) ?_
          refine lv_if_eq (tgt := 455) hx hb dL_isLaidRight_377 (by decide) (fun c_ => absurd c_ (by decide)) (fun _ => ?_)
          refine lv_iload hx hb dL_isLaidRight_380 (lv_at hl 0 rfl) ?_
          refine lv_if_ge (tgt := 392) hx hb dL_isLaidRight_382 (by decide) (fun _ => ?_) (fun c_ => absurd c2 c_)
          refine lv_aload_n hx hb dL_isLaidRight_392 rfl (lv_at hl 4 rfl) ?_
          refine lv_iload hx hb dL_isLaidRight_393 (lv_at hl 0 rfl) ?_
          refine jr_callV (n := 1) (C := RX2) (As := [.int (j_X2_turn vmov)]) (rest := []) S (c_X2_cards a0 aR aF aG cI vrow vdrawn vtr vled vmov vw1 vw2 veo veb vh1 vt1 vp1 vk1 vg1 vh2 vt2 vp2 vk2 vg2 (j_X2_turn vmov) hT) gL_isLaidRight_X2_cards rfl (by decide +kernel) rfl ⟨⟨rfl, rfl⟩, ⟨Nat.le_of_ble_eq_true rfl, Nat.le_of_ble_eq_true rfl⟩, Nat.le_of_ble_eq_true rfl, Nat.le_of_ble_eq_true rfl⟩ hP hK hN [0, 1, 2, 3] [0] rfl rfl 0 2 rfl rfl rfl (lv_nil hl) rfl (Nat.le_of_ble_eq_true rfl) dL_isLaidRight_395 ?_
          refine lv_aload_n hx hb dL_isLaidRight_398 rfl (lv_at hl 4 rfl) ?_
          refine lv_iconst (v := 1) hx hb dL_isLaidRight_399 (by decide) ?_
          refine lv_iload hx hb dL_isLaidRight_400 (lv_at hl 0 rfl) ?_
          refine lv_isub hx hb dL_isLaidRight_402 ?_
          refine jr_callV (n := 1) (C := RX2) (As := [.int (1 - (j_X2_turn vmov))]) (rest := [.int (j_X2_cards vh1 vh2 (j_X2_turn vmov))]) S (c_X2_cards a0 aR aF aG cI vrow vdrawn vtr vled vmov vw1 vw2 veo veb vh1 vt1 vp1 vk1 vg1 vh2 vt2 vp2 vk2 vg2 (1 - (j_X2_turn vmov)) hTO) gL_isLaidRight_X2_cards rfl (by decide +kernel) rfl ⟨⟨rfl, rfl⟩, ⟨Nat.le_of_ble_eq_true rfl, Nat.le_of_ble_eq_true rfl⟩, Nat.le_of_ble_eq_true rfl, Nat.le_of_ble_eq_true rfl⟩ hP hK hN [0, 1, 2, 3] [0] rfl rfl 0 2 rfl rfl rfl (lv_nil hl) rfl (Nat.le_of_ble_eq_true rfl) dL_isLaidRight_403 ?_
          refine lv_iload hx hb dL_isLaidRight_406 (lv_at hl 1 rfl) ?_
          refine lv_if_eq (tgt := 415) hx hb dL_isLaidRight_408 (by decide) (fun c_ => absurd c_ (by decide)) (fun _ => ?_)
          refine lv_iconst (v := 0) hx hb dL_isLaidRight_411 (by decide) ?_
          refine lv_goto (tgt := 416) hx hb dL_isLaidRight_412 (by decide) ?_
          refine lv_iadd hx hb dL_isLaidRight_416 ?_
          refine lv_icmp_ne (tgt := 455) hx hb dL_isLaidRight_417 (by decide) (fun c_ => absurd c5 c_) (fun _ => ?_)
          refine lv_aload_n hx hb dL_isLaidRight_420 rfl (lv_at hl 4 rfl) ?_
          refine jr_callV (n := 0) (C := RX2) (As := []) (rest := []) S (c_X2_pile a0 aR aF aG cI vrow vdrawn vtr vled vmov vw1 vw2 veo veb vh1 vt1 vp1 vk1 vg1 vh2 vt2 vp2 vk2 vg2) gL_isLaidRight_X2_pile rfl (by decide +kernel) rfl ⟨⟨rfl, rfl⟩, ⟨Nat.le_of_ble_eq_true rfl, Nat.le_of_ble_eq_true rfl⟩, Nat.le_of_ble_eq_true rfl, Nat.le_of_ble_eq_true rfl⟩ hP hK hN [0, 1, 2, 3] [0] rfl rfl 0 2 rfl rfl rfl (lv_nil hl) rfl (Nat.le_of_ble_eq_true rfl) dL_isLaidRight_421 ?_
          refine lv_if_eq (tgt := 442) hx hb dL_isLaidRight_424 (by decide) (fun c_ => absurd c_ c6) (fun _ => ?_)
          refine lv_aload_n hx hb dL_isLaidRight_427 rfl (lv_at hl 4 rfl) ?_
          refine lv_iconst (v := 1) hx hb dL_isLaidRight_428 (by decide) ?_
          refine jr_callV (n := 1) (C := RX2) (As := [.int 1]) (rest := []) S (c_X2_cards a0 aR aF aG cI vrow vdrawn vtr vled vmov vw1 vw2 veo veb vh1 vt1 vp1 vk1 vg1 vh2 vt2 vp2 vk2 vg2 1 hA1) gL_isLaidRight_X2_cards rfl (by decide +kernel) rfl ⟨⟨rfl, rfl⟩, ⟨Nat.le_of_ble_eq_true rfl, Nat.le_of_ble_eq_true rfl⟩, Nat.le_of_ble_eq_true rfl, Nat.le_of_ble_eq_true rfl⟩ hP hK hN [0, 1, 2, 3] [0] rfl rfl 0 2 rfl rfl rfl (lv_nil hl) rfl (Nat.le_of_ble_eq_true rfl) dL_isLaidRight_429 ?_
          refine lv_bipush (v := 6) hx hb dL_isLaidRight_432 (by decide) ?_
          refine lv_icmp_eq (tgt := 442) hx hb dL_isLaidRight_434 (by decide) (fun _ => ?_) (fun c_ => absurd c7 c_)
          refine lv_aload_n hx hb dL_isLaidRight_442 rfl (lv_at hl 4 rfl) ?_
          refine jr_callV (n := 0) (C := RX2) (As := []) (rest := []) S (c_X2_pile a0 aR aF aG cI vrow vdrawn vtr vled vmov vw1 vw2 veo veb vh1 vt1 vp1 vk1 vg1 vh2 vt2 vp2 vk2 vg2) gL_isLaidRight_X2_pile rfl (by decide +kernel) rfl ⟨⟨rfl, rfl⟩, ⟨Nat.le_of_ble_eq_true rfl, Nat.le_of_ble_eq_true rfl⟩, Nat.le_of_ble_eq_true rfl, Nat.le_of_ble_eq_true rfl⟩ hP hK hN [0, 1, 2, 3] [0] rfl rfl 0 2 rfl rfl rfl (lv_nil hl) rfl (Nat.le_of_ble_eq_true rfl) dL_isLaidRight_443 ?_
          refine lv_iconst (v := 2) hx hb dL_isLaidRight_446 (by decide) ?_
          refine lv_irem hx hb dL_isLaidRight_447 (by decide) ?_
          refine lv_if_ne (tgt := 455) hx hb dL_isLaidRight_448 (by decide) (fun c_ => absurd hp2 c_) (fun _ => ?_)
          refine lv_iconst (v := 1) hx hb dL_isLaidRight_451 (by decide) ?_
          refine lv_goto (tgt := 456) hx hb dL_isLaidRight_452 (by decide) ?_
          exact jr_zret hx hb hr hlocks dL_isLaidRight_456 rfl rfl
      · have c1 : 0 ≤ j_X2_led vled := by rw [l1]; exact nI_pos' (show l9 < 2 ^ 31 by omega)
        have c5 : j_X2_cards vh1 vh2 (j_X2_turn vmov) = (j_X2_cards vh1 vh2 (1 - (j_X2_turn vmov))) + 1 := by
          rw [eA, eB, nI_1]
          rcases hq with z | z
          · exact absurd (l1.symm.trans z.1) (zs_nm1 l9 hl9)
          · rw [z.2]
        by_cases c6 : j_X2_pile vdrawn = 0
        · skip
          refine lv_aload_n hx hb dL_isLaidRight_355 rfl (lv_at hl 2 rfl) ?_
          refine jr_callV (n := 0) (C := RX2) (As := []) (rest := []) S (c_X2_led a0 aR aF aG cI vrow vdrawn vtr vled vmov vw1 vw2 veo veb vh1 vt1 vp1 vk1 vg1 vh2 vt2 vp2 vk2 vg2) gL_isLaidRight_X2_led rfl (by decide +kernel) rfl ⟨⟨rfl, rfl⟩, ⟨Nat.le_of_ble_eq_true rfl, Nat.le_of_ble_eq_true rfl⟩, Nat.le_of_ble_eq_true rfl, Nat.le_of_ble_eq_true rfl⟩ hP hK hN [0, 1, 2, 3] [0] rfl rfl 0 2 rfl rfl rfl (lv_nil hl) rfl (Nat.le_of_ble_eq_true rfl) dL_isLaidRight_356 ?_
          refine lv_if_ge (tgt := 366) hx hb dL_isLaidRight_359 (by decide) (fun _ => ?_) (fun c_ => absurd c1 c_)
          refine lv_iconst (v := 0) hx hb dL_isLaidRight_366 (by decide) ?_
          refine lv_istore (lv' := [(8, .int 0), (7, .int 1), (2, .int (nI (zl_nn up 0 + zl_nn up 1))), (0, .ref a0)]) hx hb dL_isLaidRight_367 hl (by decide) rfl (fun ls hl => ?_)
          refine lv_aload_n hx hb dL_isLaidRight_369 rfl (lv_at hl 3 rfl) ?_
          refine jr_callV (n := 0) (C := RX2) (As := []) (rest := []) S (c_X2_turn a0 aR aF aG cI vrow vdrawn vtr vled vmov vw1 vw2 veo veb vh1 vt1 vp1 vk1 vg1 vh2 vt2 vp2 vk2 vg2) gL_isLaidRight_X2_turn rfl (by decide +kernel) rfl ⟨⟨rfl, rfl⟩, ⟨Nat.le_of_ble_eq_true rfl, Nat.le_of_ble_eq_true rfl⟩, Nat.le_of_ble_eq_true rfl, Nat.le_of_ble_eq_true rfl⟩ hP hK hN [0, 1, 2, 3] [0] rfl rfl 0 2 rfl rfl rfl (lv_nil hl) rfl (Nat.le_of_ble_eq_true rfl) dL_isLaidRight_370 ?_
          refine lv_istore (lv' := [(9, .int (j_X2_turn vmov)), (8, .int 0), (7, .int 1), (2, .int (nI (zl_nn up 0 + zl_nn up 1))), (0, .ref a0)]) hx hb dL_isLaidRight_373 hl (by decide) rfl (fun ls hl => ?_)
          refine lv_iload hx hb dL_isLaidRight_375 (lv_at hl 2 rfl) ?_
          refine lv_if_eq (tgt := 455) hx hb dL_isLaidRight_377 (by decide) (fun c_ => absurd c_ (by decide)) (fun _ => ?_)
          refine lv_iload hx hb dL_isLaidRight_380 (lv_at hl 0 rfl) ?_
          refine lv_if_ge (tgt := 392) hx hb dL_isLaidRight_382 (by decide) (fun _ => ?_) (fun c_ => absurd c2 c_)
          refine lv_aload_n hx hb dL_isLaidRight_392 rfl (lv_at hl 4 rfl) ?_
          refine lv_iload hx hb dL_isLaidRight_393 (lv_at hl 0 rfl) ?_
          refine jr_callV (n := 1) (C := RX2) (As := [.int (j_X2_turn vmov)]) (rest := []) S (c_X2_cards a0 aR aF aG cI vrow vdrawn vtr vled vmov vw1 vw2 veo veb vh1 vt1 vp1 vk1 vg1 vh2 vt2 vp2 vk2 vg2 (j_X2_turn vmov) hT) gL_isLaidRight_X2_cards rfl (by decide +kernel) rfl ⟨⟨rfl, rfl⟩, ⟨Nat.le_of_ble_eq_true rfl, Nat.le_of_ble_eq_true rfl⟩, Nat.le_of_ble_eq_true rfl, Nat.le_of_ble_eq_true rfl⟩ hP hK hN [0, 1, 2, 3] [0] rfl rfl 0 2 rfl rfl rfl (lv_nil hl) rfl (Nat.le_of_ble_eq_true rfl) dL_isLaidRight_395 ?_
          refine lv_aload_n hx hb dL_isLaidRight_398 rfl (lv_at hl 4 rfl) ?_
          refine lv_iconst (v := 1) hx hb dL_isLaidRight_399 (by decide) ?_
          refine lv_iload hx hb dL_isLaidRight_400 (lv_at hl 0 rfl) ?_
          refine lv_isub hx hb dL_isLaidRight_402 ?_
          refine jr_callV (n := 1) (C := RX2) (As := [.int (1 - (j_X2_turn vmov))]) (rest := [.int (j_X2_cards vh1 vh2 (j_X2_turn vmov))]) S (c_X2_cards a0 aR aF aG cI vrow vdrawn vtr vled vmov vw1 vw2 veo veb vh1 vt1 vp1 vk1 vg1 vh2 vt2 vp2 vk2 vg2 (1 - (j_X2_turn vmov)) hTO) gL_isLaidRight_X2_cards rfl (by decide +kernel) rfl ⟨⟨rfl, rfl⟩, ⟨Nat.le_of_ble_eq_true rfl, Nat.le_of_ble_eq_true rfl⟩, Nat.le_of_ble_eq_true rfl, Nat.le_of_ble_eq_true rfl⟩ hP hK hN [0, 1, 2, 3] [0] rfl rfl 0 2 rfl rfl rfl (lv_nil hl) rfl (Nat.le_of_ble_eq_true rfl) dL_isLaidRight_403 ?_
          refine lv_iload hx hb dL_isLaidRight_406 (lv_at hl 1 rfl) ?_
          refine lv_if_eq (tgt := 415) hx hb dL_isLaidRight_408 (by decide) (fun _ => ?_) (fun c_ => absurd (by decide) c_)
          refine lv_iconst (v := 1) hx hb dL_isLaidRight_415 (by decide) ?_
          refine lv_iadd hx hb dL_isLaidRight_416 ?_
          refine lv_icmp_ne (tgt := 455) hx hb dL_isLaidRight_417 (by decide) (fun c_ => absurd c5 c_) (fun _ => ?_)
          refine lv_aload_n hx hb dL_isLaidRight_420 rfl (lv_at hl 4 rfl) ?_
          refine jr_callV (n := 0) (C := RX2) (As := []) (rest := []) S (c_X2_pile a0 aR aF aG cI vrow vdrawn vtr vled vmov vw1 vw2 veo veb vh1 vt1 vp1 vk1 vg1 vh2 vt2 vp2 vk2 vg2) gL_isLaidRight_X2_pile rfl (by decide +kernel) rfl ⟨⟨rfl, rfl⟩, ⟨Nat.le_of_ble_eq_true rfl, Nat.le_of_ble_eq_true rfl⟩, Nat.le_of_ble_eq_true rfl, Nat.le_of_ble_eq_true rfl⟩ hP hK hN [0, 1, 2, 3] [0] rfl rfl 0 2 rfl rfl rfl (lv_nil hl) rfl (Nat.le_of_ble_eq_true rfl) dL_isLaidRight_421 ?_
          refine lv_if_eq (tgt := 442) hx hb dL_isLaidRight_424 (by decide) (fun _ => ?_) (fun c_ => absurd c6 c_)
          refine lv_aload_n hx hb dL_isLaidRight_442 rfl (lv_at hl 4 rfl) ?_
          refine jr_callV (n := 0) (C := RX2) (As := []) (rest := []) S (c_X2_pile a0 aR aF aG cI vrow vdrawn vtr vled vmov vw1 vw2 veo veb vh1 vt1 vp1 vk1 vg1 vh2 vt2 vp2 vk2 vg2) gL_isLaidRight_X2_pile rfl (by decide +kernel) rfl ⟨⟨rfl, rfl⟩, ⟨Nat.le_of_ble_eq_true rfl, Nat.le_of_ble_eq_true rfl⟩, Nat.le_of_ble_eq_true rfl, Nat.le_of_ble_eq_true rfl⟩ hP hK hN [0, 1, 2, 3] [0] rfl rfl 0 2 rfl rfl rfl (lv_nil hl) rfl (Nat.le_of_ble_eq_true rfl) dL_isLaidRight_443 ?_
          refine lv_iconst (v := 2) hx hb dL_isLaidRight_446 (by decide) ?_
          refine lv_irem hx hb dL_isLaidRight_447 (by decide) ?_
          refine lv_if_ne (tgt := 455) hx hb dL_isLaidRight_448 (by decide) (fun c_ => absurd hp2 c_) (fun _ => ?_)
          refine lv_iconst (v := 1) hx hb dL_isLaidRight_451 (by decide) ?_
          refine lv_goto (tgt := 456) hx hb dL_isLaidRight_452 (by decide) ?_
          exact jr_zret hx hb hr hlocks dL_isLaidRight_456 rfl rfl
        · skip
          refine lv_aload_n hx hb dL_isLaidRight_355 rfl (lv_at hl 2 rfl) ?_
          refine jr_callV (n := 0) (C := RX2) (As := []) (rest := []) S (c_X2_led a0 aR aF aG cI vrow vdrawn vtr vled vmov vw1 vw2 veo veb vh1 vt1 vp1 vk1 vg1 vh2 vt2 vp2 vk2 vg2) gL_isLaidRight_X2_led rfl (by decide +kernel) rfl ⟨⟨rfl, rfl⟩, ⟨Nat.le_of_ble_eq_true rfl, Nat.le_of_ble_eq_true rfl⟩, Nat.le_of_ble_eq_true rfl, Nat.le_of_ble_eq_true rfl⟩ hP hK hN [0, 1, 2, 3] [0] rfl rfl 0 2 rfl rfl rfl (lv_nil hl) rfl (Nat.le_of_ble_eq_true rfl) dL_isLaidRight_356 ?_
          refine lv_if_ge (tgt := 366) hx hb dL_isLaidRight_359 (by decide) (fun _ => ?_) (fun c_ => absurd c1 c_)
          refine lv_iconst (v := 0) hx hb dL_isLaidRight_366 (by decide) ?_
          refine lv_istore (lv' := [(8, .int 0), (7, .int 1), (2, .int (nI (zl_nn up 0 + zl_nn up 1))), (0, .ref a0)]) hx hb dL_isLaidRight_367 hl (by decide) rfl (fun ls hl => ?_)
          refine lv_aload_n hx hb dL_isLaidRight_369 rfl (lv_at hl 3 rfl) ?_
          refine jr_callV (n := 0) (C := RX2) (As := []) (rest := []) S (c_X2_turn a0 aR aF aG cI vrow vdrawn vtr vled vmov vw1 vw2 veo veb vh1 vt1 vp1 vk1 vg1 vh2 vt2 vp2 vk2 vg2) gL_isLaidRight_X2_turn rfl (by decide +kernel) rfl ⟨⟨rfl, rfl⟩, ⟨Nat.le_of_ble_eq_true rfl, Nat.le_of_ble_eq_true rfl⟩, Nat.le_of_ble_eq_true rfl, Nat.le_of_ble_eq_true rfl⟩ hP hK hN [0, 1, 2, 3] [0] rfl rfl 0 2 rfl rfl rfl (lv_nil hl) rfl (Nat.le_of_ble_eq_true rfl) dL_isLaidRight_370 ?_
          refine lv_istore (lv' := [(9, .int (j_X2_turn vmov)), (8, .int 0), (7, .int 1), (2, .int (nI (zl_nn up 0 + zl_nn up 1))), (0, .ref a0)]) hx hb dL_isLaidRight_373 hl (by decide) rfl (fun ls hl => ?_)
          refine lv_iload hx hb dL_isLaidRight_375 (lv_at hl 2 rfl) ?_
          refine lv_if_eq (tgt := 455) hx hb dL_isLaidRight_377 (by decide) (fun c_ => absurd c_ (by decide)) (fun _ => ?_)
          refine lv_iload hx hb dL_isLaidRight_380 (lv_at hl 0 rfl) ?_
          refine lv_if_ge (tgt := 392) hx hb dL_isLaidRight_382 (by decide) (fun _ => ?_) (fun c_ => absurd c2 c_)
          refine lv_aload_n hx hb dL_isLaidRight_392 rfl (lv_at hl 4 rfl) ?_
          refine lv_iload hx hb dL_isLaidRight_393 (lv_at hl 0 rfl) ?_
          refine jr_callV (n := 1) (C := RX2) (As := [.int (j_X2_turn vmov)]) (rest := []) S (c_X2_cards a0 aR aF aG cI vrow vdrawn vtr vled vmov vw1 vw2 veo veb vh1 vt1 vp1 vk1 vg1 vh2 vt2 vp2 vk2 vg2 (j_X2_turn vmov) hT) gL_isLaidRight_X2_cards rfl (by decide +kernel) rfl ⟨⟨rfl, rfl⟩, ⟨Nat.le_of_ble_eq_true rfl, Nat.le_of_ble_eq_true rfl⟩, Nat.le_of_ble_eq_true rfl, Nat.le_of_ble_eq_true rfl⟩ hP hK hN [0, 1, 2, 3] [0] rfl rfl 0 2 rfl rfl rfl (lv_nil hl) rfl (Nat.le_of_ble_eq_true rfl) dL_isLaidRight_395 ?_
          refine lv_aload_n hx hb dL_isLaidRight_398 rfl (lv_at hl 4 rfl) ?_
          refine lv_iconst (v := 1) hx hb dL_isLaidRight_399 (by decide) ?_
          refine lv_iload hx hb dL_isLaidRight_400 (lv_at hl 0 rfl) ?_
          refine lv_isub hx hb dL_isLaidRight_402 ?_
          refine jr_callV (n := 1) (C := RX2) (As := [.int (1 - (j_X2_turn vmov))]) (rest := [.int (j_X2_cards vh1 vh2 (j_X2_turn vmov))]) S (c_X2_cards a0 aR aF aG cI vrow vdrawn vtr vled vmov vw1 vw2 veo veb vh1 vt1 vp1 vk1 vg1 vh2 vt2 vp2 vk2 vg2 (1 - (j_X2_turn vmov)) hTO) gL_isLaidRight_X2_cards rfl (by decide +kernel) rfl ⟨⟨rfl, rfl⟩, ⟨Nat.le_of_ble_eq_true rfl, Nat.le_of_ble_eq_true rfl⟩, Nat.le_of_ble_eq_true rfl, Nat.le_of_ble_eq_true rfl⟩ hP hK hN [0, 1, 2, 3] [0] rfl rfl 0 2 rfl rfl rfl (lv_nil hl) rfl (Nat.le_of_ble_eq_true rfl) dL_isLaidRight_403 ?_
          refine lv_iload hx hb dL_isLaidRight_406 (lv_at hl 1 rfl) ?_
          refine lv_if_eq (tgt := 415) hx hb dL_isLaidRight_408 (by decide) (fun _ => ?_) (fun c_ => absurd (by decide) c_)
          refine lv_iconst (v := 1) hx hb dL_isLaidRight_415 (by decide) ?_
          refine lv_iadd hx hb dL_isLaidRight_416 ?_
          refine lv_icmp_ne (tgt := 455) hx hb dL_isLaidRight_417 (by decide) (fun c_ => absurd c5 c_) (fun _ => ?_)
          refine lv_aload_n hx hb dL_isLaidRight_420 rfl (lv_at hl 4 rfl) ?_
          refine jr_callV (n := 0) (C := RX2) (As := []) (rest := []) S (c_X2_pile a0 aR aF aG cI vrow vdrawn vtr vled vmov vw1 vw2 veo veb vh1 vt1 vp1 vk1 vg1 vh2 vt2 vp2 vk2 vg2) gL_isLaidRight_X2_pile rfl (by decide +kernel) rfl ⟨⟨rfl, rfl⟩, ⟨Nat.le_of_ble_eq_true rfl, Nat.le_of_ble_eq_true rfl⟩, Nat.le_of_ble_eq_true rfl, Nat.le_of_ble_eq_true rfl⟩ hP hK hN [0, 1, 2, 3] [0] rfl rfl 0 2 rfl rfl rfl (lv_nil hl) rfl (Nat.le_of_ble_eq_true rfl) dL_isLaidRight_421 ?_
          refine lv_if_eq (tgt := 442) hx hb dL_isLaidRight_424 (by decide) (fun c_ => absurd c_ c6) (fun _ => ?_)
          refine lv_aload_n hx hb dL_isLaidRight_427 rfl (lv_at hl 4 rfl) ?_
          refine lv_iconst (v := 1) hx hb dL_isLaidRight_428 (by decide) ?_
          refine jr_callV (n := 1) (C := RX2) (As := [.int 1]) (rest := []) S (c_X2_cards a0 aR aF aG cI vrow vdrawn vtr vled vmov vw1 vw2 veo veb vh1 vt1 vp1 vk1 vg1 vh2 vt2 vp2 vk2 vg2 1 hA1) gL_isLaidRight_X2_cards rfl (by decide +kernel) rfl ⟨⟨rfl, rfl⟩, ⟨Nat.le_of_ble_eq_true rfl, Nat.le_of_ble_eq_true rfl⟩, Nat.le_of_ble_eq_true rfl, Nat.le_of_ble_eq_true rfl⟩ hP hK hN [0, 1, 2, 3] [0] rfl rfl 0 2 rfl rfl rfl (lv_nil hl) rfl (Nat.le_of_ble_eq_true rfl) dL_isLaidRight_429 ?_
          refine lv_bipush (v := 6) hx hb dL_isLaidRight_432 (by decide) ?_
          refine lv_icmp_eq (tgt := 442) hx hb dL_isLaidRight_434 (by decide) (fun c_1 => ?_) (fun c_1 => ?_)
          · skip
            refine lv_aload_n hx hb dL_isLaidRight_442 rfl (lv_at hl 4 rfl) ?_
            refine jr_callV (n := 0) (C := RX2) (As := []) (rest := []) S (c_X2_pile a0 aR aF aG cI vrow vdrawn vtr vled vmov vw1 vw2 veo veb vh1 vt1 vp1 vk1 vg1 vh2 vt2 vp2 vk2 vg2) gL_isLaidRight_X2_pile rfl (by decide +kernel) rfl ⟨⟨rfl, rfl⟩, ⟨Nat.le_of_ble_eq_true rfl, Nat.le_of_ble_eq_true rfl⟩, Nat.le_of_ble_eq_true rfl, Nat.le_of_ble_eq_true rfl⟩ hP hK hN [0, 1, 2, 3] [0] rfl rfl 0 2 rfl rfl rfl (lv_nil hl) rfl (Nat.le_of_ble_eq_true rfl) dL_isLaidRight_443 ?_
            refine lv_iconst (v := 2) hx hb dL_isLaidRight_446 (by decide) ?_
            refine lv_irem hx hb dL_isLaidRight_447 (by decide) ?_
            refine lv_if_ne (tgt := 455) hx hb dL_isLaidRight_448 (by decide) (fun c_ => absurd hp2 c_) (fun _ => ?_)
            refine lv_iconst (v := 1) hx hb dL_isLaidRight_451 (by decide) ?_
            refine lv_goto (tgt := 456) hx hb dL_isLaidRight_452 (by decide) ?_
            exact jr_zret hx hb hr hlocks dL_isLaidRight_456 rfl rfl
          · skip
            refine lv_iload hx hb dL_isLaidRight_437 (lv_at hl 1 rfl) ?_
            refine lv_if_ne (tgt := 455) hx hb dL_isLaidRight_439 (by decide) (fun c_ => absurd (by decide) c_) (fun _ => ?_)
            refine lv_aload_n hx hb dL_isLaidRight_442 rfl (lv_at hl 4 rfl) ?_
            refine jr_callV (n := 0) (C := RX2) (As := []) (rest := []) S (c_X2_pile a0 aR aF aG cI vrow vdrawn vtr vled vmov vw1 vw2 veo veb vh1 vt1 vp1 vk1 vg1 vh2 vt2 vp2 vk2 vg2) gL_isLaidRight_X2_pile rfl (by decide +kernel) rfl ⟨⟨rfl, rfl⟩, ⟨Nat.le_of_ble_eq_true rfl, Nat.le_of_ble_eq_true rfl⟩, Nat.le_of_ble_eq_true rfl, Nat.le_of_ble_eq_true rfl⟩ hP hK hN [0, 1, 2, 3] [0] rfl rfl 0 2 rfl rfl rfl (lv_nil hl) rfl (Nat.le_of_ble_eq_true rfl) dL_isLaidRight_443 ?_
            refine lv_iconst (v := 2) hx hb dL_isLaidRight_446 (by decide) ?_
            refine lv_irem hx hb dL_isLaidRight_447 (by decide) ?_
            refine lv_if_ne (tgt := 455) hx hb dL_isLaidRight_448 (by decide) (fun c_ => absurd hp2 c_) (fun _ => ?_)
            refine lv_iconst (v := 1) hx hb dL_isLaidRight_451 (by decide) ?_
            refine lv_goto (tgt := 456) hx hb dL_isLaidRight_452 (by decide) ?_
            exact jr_zret hx hb hr hlocks dL_isLaidRight_456 rfl rfl
  have H1 : ∀ (n k : Nat), k + n = zl_nn up 1 → ∀ (ls : Array Slot), lv_has ls 11 [(9, .int (nI k)), (8, .int 1), (7, .int 1), (2, .int (nI (zl_nn up 0 + zl_nn up 1))), (0, .ref a0)] → W p l e rL_isLaidRight s m ([.ref a0, .int x0] : List Value).toArray below meth c s.heap [] 0 0 (MQ below (k2_QcV (.int 1)) ([.ref a0, .int x0] : List Value).toArray s 0 0 (fun _ => False)) (F0 m 279 ls []) := by
    intro n
    induction n with
    | zero =>
      intro k hkn ls hl
      have c1 : j_X2_cards vh1 vh2 1 ≤ nI k := by rw [hC1, show k = zl_nn up 1 by omega]; exact nI_le (Nat.le_refl _) (by omega)
      refine lv_iload hx hb dL_isLaidRight_279 (lv_at hl 0 rfl) ?_
      refine lv_aload_n hx hb dL_isLaidRight_281 rfl (lv_at hl 4 rfl) ?_
      refine lv_iload hx hb dL_isLaidRight_282 (lv_at hl 1 rfl) ?_
      refine jr_callV (n := 1) (C := RX2) (As := [.int 1]) (rest := [.int (nI k)]) S (c_X2_cards a0 aR aF aG cI vrow vdrawn vtr vled vmov vw1 vw2 veo veb vh1 vt1 vp1 vk1 vg1 vh2 vt2 vp2 vk2 vg2 1 hA1) gL_isLaidRight_X2_cards rfl (by decide +kernel) rfl ⟨⟨rfl, rfl⟩, ⟨Nat.le_of_ble_eq_true rfl, Nat.le_of_ble_eq_true rfl⟩, Nat.le_of_ble_eq_true rfl, Nat.le_of_ble_eq_true rfl⟩ hP hK hN [0, 1, 2, 3] [0] rfl rfl 0 2 rfl rfl rfl (lv_nil hl) rfl (Nat.le_of_ble_eq_true rfl) dL_isLaidRight_284 ?_
      refine lv_icmp_ge (tgt := 349) hx hb dL_isLaidRight_287 (by decide) (fun _ => ?_) (fun c_ => absurd c1 c_)
      refine lv_iinc (v := 2) (lv' := [(8, .int 2), (9, .int (nI k)), (7, .int 1), (2, .int (nI (zl_nn up 0 + zl_nn up 1))), (0, .ref a0)]) hx hb dL_isLaidRight_349 hl (k := 1) rfl (by decide) (by decide) rfl (fun ls hl => ?_)
      refine lv_goto (tgt := 270) hx hb dL_isLaidRight_352 (by decide) ?_
      refine lv_iload hx hb dL_isLaidRight_270 (lv_at hl 0 rfl) ?_
      refine lv_iconst (v := 2) hx hb dL_isLaidRight_272 (by decide) ?_
      refine lv_icmp_ge (tgt := 355) hx hb dL_isLaidRight_273 (by decide) (fun _ => ?_) (fun c_ => absurd (by decide) c_)
      exact K3 ls (lv_sub hl [2, 3, 4] rfl)
    | succ n ih =>
      intro k hkn ls hl
      obtain ⟨d, hd, ud, ed, cd⟩ := pq_kth (vh1 := vh1) (vh2 := vh2) (show 1 < 2 by decide) g1 g2 (show k < zl_nn up 1 by omega)
      have cd : j_X2_cardAt vh1 vh2 1 (nI k) = nI d := cd
      have hcd : ¬ j_X2_isCard (nI d) = 0 := by rw [zr_isCard hd]; decide
      have hne : ¬ j_X2_cardAt vh1 vh2 1 (nI k) = -1 := by rw [cd]; exact zs_nm1 d hd
      have c1 : ¬ j_X2_cards vh1 vh2 1 ≤ nI k := by rw [hC1]; exact nI_ge (by omega) (by omega)
      have c2 : j_X2_placeOf vtr vled vh1 vt1 vh2 vt2 (nI d) = 1 := (hpl d hd).1.trans ud
      rcases Nat.eq_zero_or_pos k with k00 | k00
      · have c3 : nI k = 0 := by rw [k00]; rfl
        refine lv_iload hx hb dL_isLaidRight_279 (lv_at hl 0 rfl) ?_
        refine lv_aload_n hx hb dL_isLaidRight_281 rfl (lv_at hl 4 rfl) ?_
        refine lv_iload hx hb dL_isLaidRight_282 (lv_at hl 1 rfl) ?_
        refine jr_callV (n := 1) (C := RX2) (As := [.int 1]) (rest := [.int (nI k)]) S (c_X2_cards a0 aR aF aG cI vrow vdrawn vtr vled vmov vw1 vw2 veo veb vh1 vt1 vp1 vk1 vg1 vh2 vt2 vp2 vk2 vg2 1 hA1) gL_isLaidRight_X2_cards rfl (by decide +kernel) rfl ⟨⟨rfl, rfl⟩, ⟨Nat.le_of_ble_eq_true rfl, Nat.le_of_ble_eq_true rfl⟩, Nat.le_of_ble_eq_true rfl, Nat.le_of_ble_eq_true rfl⟩ hP hK hN [0, 1, 2, 3] [0] rfl rfl 0 2 rfl rfl rfl (lv_nil hl) rfl (Nat.le_of_ble_eq_true rfl) dL_isLaidRight_284 ?_
        refine lv_icmp_ge (tgt := 349) hx hb dL_isLaidRight_287 (by decide) (fun c_ => absurd c_ c1) (fun _ => ?_)
        refine lv_aload_n hx hb dL_isLaidRight_290 rfl (lv_at hl 4 rfl) ?_
        refine lv_iload hx hb dL_isLaidRight_291 (lv_at hl 1 rfl) ?_
        refine lv_iload hx hb dL_isLaidRight_293 (lv_at hl 0 rfl) ?_
        refine jr_callV (n := 2) (C := RX2) (As := [.int 1, .int (nI k)]) (rest := []) S (c_X2_cardAt a0 aR aF aG cI vrow vdrawn vtr vled vmov vw1 vw2 veo veb vh1 vt1 vp1 vk1 vg1 vh2 vt2 vp2 vk2 vg2 1 (nI k) hne hA1) gL_isLaidRight_X2_cardAt rfl (by decide +kernel) rfl ⟨⟨rfl, rfl⟩, ⟨Nat.le_of_ble_eq_true rfl, Nat.le_of_ble_eq_true rfl⟩, Nat.le_of_ble_eq_true rfl, Nat.le_of_ble_eq_true rfl⟩ hP hK hN [0, 1, 2, 3] [0] rfl rfl 0 2 rfl rfl rfl (lv_nil hl) rfl (Nat.le_of_ble_eq_true rfl) dL_isLaidRight_295 ?_
        rw [cd]
        refine lv_istore (lv' := [(10, .int (nI d)), (9, .int (nI k)), (8, .int 1), (7, .int 1), (2, .int (nI (zl_nn up 0 + zl_nn up 1))), (0, .ref a0)]) hx hb dL_isLaidRight_298 hl (by decide) rfl (fun ls hl => ?_)
        refine lv_iload hx hb dL_isLaidRight_300 (lv_at hl 3 rfl) ?_
        refine lv_if_eq (tgt := 340) hx hb dL_isLaidRight_302 (by decide) (fun c_ => absurd c_ (by decide)) (fun _ => ?_)
        refine lv_aload_n hx hb dL_isLaidRight_305 rfl (lv_at hl 5 rfl) ?_
        refine lv_iload hx hb dL_isLaidRight_306 (lv_at hl 0 rfl) ?_
        refine jr_callV (n := 1) (C := RX2) (As := [.int (nI d)]) (rest := []) S (c_X2_placeOf a0 aR aF aG cI vrow vdrawn vtr vled vmov vw1 vw2 veo veb vh1 vt1 vp1 vk1 vg1 vh2 vt2 vp2 vk2 vg2 (nI d) hcd) gL_isLaidRight_X2_placeOf rfl (by decide +kernel) rfl ⟨⟨rfl, rfl⟩, ⟨Nat.le_of_ble_eq_true rfl, Nat.le_of_ble_eq_true rfl⟩, Nat.le_of_ble_eq_true rfl, Nat.le_of_ble_eq_true rfl⟩ hP hK hN [0, 1, 2, 3] [0] rfl rfl 0 2 rfl rfl rfl (lv_nil hl) rfl (Nat.le_of_ble_eq_true rfl) dL_isLaidRight_308 ?_
        refine lv_iload hx hb dL_isLaidRight_311 (lv_at hl 2 rfl) ?_
        refine lv_icmp_ne (tgt := 340) hx hb dL_isLaidRight_313 (by decide) (fun c_ => absurd c2 c_) (fun _ => ?_)
        refine lv_iload hx hb dL_isLaidRight_316 (lv_at hl 1 rfl) ?_
        refine lv_if_eq (tgt := 336) hx hb dL_isLaidRight_318 (by decide) (fun _ => ?_) (fun c_ => absurd c3 c_)
        refine lv_iconst (v := 1) hx hb dL_isLaidRight_336 (by decide) ?_
        refine lv_goto (tgt := 341) hx hb dL_isLaidRight_337 (by decide) ?_
        refine lv_istore (lv' := [(7, .int 1), (10, .int (nI d)), (9, .int (nI k)), (8, .int 1), (2, .int (nI (zl_nn up 0 + zl_nn up 1))), (0, .ref a0)]) hx hb dL_isLaidRight_341 hl (by decide) rfl (fun ls hl => ?_)
        refine lv_iinc (v := nI (k + 1)) (lv' := [(9, .int (nI (k + 1))), (7, .int 1), (10, .int (nI d)), (8, .int 1), (2, .int (nI (zl_nn up 0 + zl_nn up 1))), (0, .ref a0)]) hx hb dL_isLaidRight_343 hl (k := 2) rfl (nI_1 k) (by decide) rfl (fun ls hl => ?_)
        refine lv_goto (tgt := 279) hx hb dL_isLaidRight_346 (by decide) ?_
        exact ih (k + 1) (by omega) ls (lv_sub hl [0, 3, 1, 4, 5] rfl)
      · obtain ⟨k9, e9⟩ : ∃ k9, k = k9 + 1 := ⟨k - 1, by omega⟩
        obtain ⟨d9, hd9, ud9, ed9, cd9⟩ := pq_kth (vh1 := vh1) (vh2 := vh2) (show 1 < 2 by decide) g1 g2 (show k9 < zl_nn up 1 by omega)
        have cd9 : j_X2_cardAt vh1 vh2 1 (nI k9) = nI d9 := cd9
        have e10 : nI k - 1 = nI k9 := by rw [e9]; exact nI_pred k9
        have hne9 : ¬ j_X2_cardAt vh1 vh2 1 (nI k9) = -1 := by rw [cd9]; exact zs_nm1 d9 hd9
        have c3 : ¬ nI k = 0 := nI_ne0 k00 (by omega)
        have c4 : ¬ nI d ≤ nI d9 := nI_ge (pq_lt (p := zl_p up 1) (by omega)) (by omega)
        refine lv_iload hx hb dL_isLaidRight_279 (lv_at hl 0 rfl) ?_
        refine lv_aload_n hx hb dL_isLaidRight_281 rfl (lv_at hl 4 rfl) ?_
        refine lv_iload hx hb dL_isLaidRight_282 (lv_at hl 1 rfl) ?_
        refine jr_callV (n := 1) (C := RX2) (As := [.int 1]) (rest := [.int (nI k)]) S (c_X2_cards a0 aR aF aG cI vrow vdrawn vtr vled vmov vw1 vw2 veo veb vh1 vt1 vp1 vk1 vg1 vh2 vt2 vp2 vk2 vg2 1 hA1) gL_isLaidRight_X2_cards rfl (by decide +kernel) rfl ⟨⟨rfl, rfl⟩, ⟨Nat.le_of_ble_eq_true rfl, Nat.le_of_ble_eq_true rfl⟩, Nat.le_of_ble_eq_true rfl, Nat.le_of_ble_eq_true rfl⟩ hP hK hN [0, 1, 2, 3] [0] rfl rfl 0 2 rfl rfl rfl (lv_nil hl) rfl (Nat.le_of_ble_eq_true rfl) dL_isLaidRight_284 ?_
        refine lv_icmp_ge (tgt := 349) hx hb dL_isLaidRight_287 (by decide) (fun c_ => absurd c_ c1) (fun _ => ?_)
        refine lv_aload_n hx hb dL_isLaidRight_290 rfl (lv_at hl 4 rfl) ?_
        refine lv_iload hx hb dL_isLaidRight_291 (lv_at hl 1 rfl) ?_
        refine lv_iload hx hb dL_isLaidRight_293 (lv_at hl 0 rfl) ?_
        refine jr_callV (n := 2) (C := RX2) (As := [.int 1, .int (nI k)]) (rest := []) S (c_X2_cardAt a0 aR aF aG cI vrow vdrawn vtr vled vmov vw1 vw2 veo veb vh1 vt1 vp1 vk1 vg1 vh2 vt2 vp2 vk2 vg2 1 (nI k) hne hA1) gL_isLaidRight_X2_cardAt rfl (by decide +kernel) rfl ⟨⟨rfl, rfl⟩, ⟨Nat.le_of_ble_eq_true rfl, Nat.le_of_ble_eq_true rfl⟩, Nat.le_of_ble_eq_true rfl, Nat.le_of_ble_eq_true rfl⟩ hP hK hN [0, 1, 2, 3] [0] rfl rfl 0 2 rfl rfl rfl (lv_nil hl) rfl (Nat.le_of_ble_eq_true rfl) dL_isLaidRight_295 ?_
        rw [cd]
        refine lv_istore (lv' := [(10, .int (nI d)), (9, .int (nI k)), (8, .int 1), (7, .int 1), (2, .int (nI (zl_nn up 0 + zl_nn up 1))), (0, .ref a0)]) hx hb dL_isLaidRight_298 hl (by decide) rfl (fun ls hl => ?_)
        refine lv_iload hx hb dL_isLaidRight_300 (lv_at hl 3 rfl) ?_
        refine lv_if_eq (tgt := 340) hx hb dL_isLaidRight_302 (by decide) (fun c_ => absurd c_ (by decide)) (fun _ => ?_)
        refine lv_aload_n hx hb dL_isLaidRight_305 rfl (lv_at hl 5 rfl) ?_
        refine lv_iload hx hb dL_isLaidRight_306 (lv_at hl 0 rfl) ?_
        refine jr_callV (n := 1) (C := RX2) (As := [.int (nI d)]) (rest := []) S (c_X2_placeOf a0 aR aF aG cI vrow vdrawn vtr vled vmov vw1 vw2 veo veb vh1 vt1 vp1 vk1 vg1 vh2 vt2 vp2 vk2 vg2 (nI d) hcd) gL_isLaidRight_X2_placeOf rfl (by decide +kernel) rfl ⟨⟨rfl, rfl⟩, ⟨Nat.le_of_ble_eq_true rfl, Nat.le_of_ble_eq_true rfl⟩, Nat.le_of_ble_eq_true rfl, Nat.le_of_ble_eq_true rfl⟩ hP hK hN [0, 1, 2, 3] [0] rfl rfl 0 2 rfl rfl rfl (lv_nil hl) rfl (Nat.le_of_ble_eq_true rfl) dL_isLaidRight_308 ?_
        refine lv_iload hx hb dL_isLaidRight_311 (lv_at hl 2 rfl) ?_
        refine lv_icmp_ne (tgt := 340) hx hb dL_isLaidRight_313 (by decide) (fun c_ => absurd c2 c_) (fun _ => ?_)
        refine lv_iload hx hb dL_isLaidRight_316 (lv_at hl 1 rfl) ?_
        refine lv_if_eq (tgt := 336) hx hb dL_isLaidRight_318 (by decide) (fun c_ => absurd c_ c3) (fun _ => ?_)
        refine lv_aload_n hx hb dL_isLaidRight_321 rfl (lv_at hl 5 rfl) ?_
        refine lv_iload hx hb dL_isLaidRight_322 (lv_at hl 2 rfl) ?_
        refine lv_iload hx hb dL_isLaidRight_324 (lv_at hl 1 rfl) ?_
        refine lv_iconst (v := 1) hx hb dL_isLaidRight_326 (by decide) ?_
        refine lv_isub hx hb dL_isLaidRight_327 ?_
        rw [e10]
        refine jr_callV (n := 2) (C := RX2) (As := [.int 1, .int (nI k9)]) (rest := []) S (c_X2_cardAt a0 aR aF aG cI vrow vdrawn vtr vled vmov vw1 vw2 veo veb vh1 vt1 vp1 vk1 vg1 vh2 vt2 vp2 vk2 vg2 1 (nI k9) hne9 hA1) gL_isLaidRight_X2_cardAt rfl (by decide +kernel) rfl ⟨⟨rfl, rfl⟩, ⟨Nat.le_of_ble_eq_true rfl, Nat.le_of_ble_eq_true rfl⟩, Nat.le_of_ble_eq_true rfl, Nat.le_of_ble_eq_true rfl⟩ hP hK hN [0, 1, 2, 3] [0] rfl rfl 0 2 rfl rfl rfl (lv_nil hl) rfl (Nat.le_of_ble_eq_true rfl) dL_isLaidRight_328 ?_
        rw [cd9]
        refine lv_iload hx hb dL_isLaidRight_331 (lv_at hl 0 rfl) ?_
        refine lv_icmp_ge (tgt := 340) hx hb dL_isLaidRight_333 (by decide) (fun c_ => absurd c_ c4) (fun _ => ?_)
        refine lv_iconst (v := 1) hx hb dL_isLaidRight_336 (by decide) ?_
        refine lv_goto (tgt := 341) hx hb dL_isLaidRight_337 (by decide) ?_
        refine lv_istore (lv' := [(7, .int 1), (10, .int (nI d)), (9, .int (nI k)), (8, .int 1), (2, .int (nI (zl_nn up 0 + zl_nn up 1))), (0, .ref a0)]) hx hb dL_isLaidRight_341 hl (by decide) rfl (fun ls hl => ?_)
        refine lv_iinc (v := nI (k + 1)) (lv' := [(9, .int (nI (k + 1))), (7, .int 1), (10, .int (nI d)), (8, .int 1), (2, .int (nI (zl_nn up 0 + zl_nn up 1))), (0, .ref a0)]) hx hb dL_isLaidRight_343 hl (k := 2) rfl (nI_1 k) (by decide) rfl (fun ls hl => ?_)
        refine lv_goto (tgt := 279) hx hb dL_isLaidRight_346 (by decide) ?_
        exact ih (k + 1) (by omega) ls (lv_sub hl [0, 3, 1, 4, 5] rfl)
  have H0 : ∀ (n k : Nat), k + n = zl_nn up 0 → ∀ (ls : Array Slot), lv_has ls 11 [(9, .int (nI k)), (8, .int 0), (7, .int 1), (2, .int (nI (zl_nn up 0 + zl_nn up 1))), (0, .ref a0)] → W p l e rL_isLaidRight s m ([.ref a0, .int x0] : List Value).toArray below meth c s.heap [] 0 0 (MQ below (k2_QcV (.int 1)) ([.ref a0, .int x0] : List Value).toArray s 0 0 (fun _ => False)) (F0 m 279 ls []) := by
    intro n
    induction n with
    | zero =>
      intro k hkn ls hl
      have c1 : j_X2_cards vh1 vh2 0 ≤ nI k := by rw [hC0, show k = zl_nn up 0 by omega]; exact nI_le (Nat.le_refl _) (by omega)
      refine lv_iload hx hb dL_isLaidRight_279 (lv_at hl 0 rfl) ?_
      refine lv_aload_n hx hb dL_isLaidRight_281 rfl (lv_at hl 4 rfl) ?_
      refine lv_iload hx hb dL_isLaidRight_282 (lv_at hl 1 rfl) ?_
      refine jr_callV (n := 1) (C := RX2) (As := [.int 0]) (rest := [.int (nI k)]) S (c_X2_cards a0 aR aF aG cI vrow vdrawn vtr vled vmov vw1 vw2 veo veb vh1 vt1 vp1 vk1 vg1 vh2 vt2 vp2 vk2 vg2 0 hA0) gL_isLaidRight_X2_cards rfl (by decide +kernel) rfl ⟨⟨rfl, rfl⟩, ⟨Nat.le_of_ble_eq_true rfl, Nat.le_of_ble_eq_true rfl⟩, Nat.le_of_ble_eq_true rfl, Nat.le_of_ble_eq_true rfl⟩ hP hK hN [0, 1, 2, 3] [0] rfl rfl 0 2 rfl rfl rfl (lv_nil hl) rfl (Nat.le_of_ble_eq_true rfl) dL_isLaidRight_284 ?_
      refine lv_icmp_ge (tgt := 349) hx hb dL_isLaidRight_287 (by decide) (fun _ => ?_) (fun c_ => absurd c1 c_)
      refine lv_iinc (v := 1) (lv' := [(8, .int 1), (9, .int (nI k)), (7, .int 1), (2, .int (nI (zl_nn up 0 + zl_nn up 1))), (0, .ref a0)]) hx hb dL_isLaidRight_349 hl (k := 1) rfl (by decide) (by decide) rfl (fun ls hl => ?_)
      refine lv_goto (tgt := 270) hx hb dL_isLaidRight_352 (by decide) ?_
      refine lv_iload hx hb dL_isLaidRight_270 (lv_at hl 0 rfl) ?_
      refine lv_iconst (v := 2) hx hb dL_isLaidRight_272 (by decide) ?_
      refine lv_icmp_ge (tgt := 355) hx hb dL_isLaidRight_273 (by decide) (fun c_ => absurd c_ (by decide)) (fun _ => ?_)
      refine lv_iconst (v := 0) hx hb dL_isLaidRight_276 (by decide) ?_
      refine lv_istore (lv' := [(9, .int 0), (8, .int 1), (7, .int 1), (2, .int (nI (zl_nn up 0 + zl_nn up 1))), (0, .ref a0)]) hx hb dL_isLaidRight_277 hl (by decide) rfl (fun ls hl => ?_)
      exact H1 (zl_nn up 1) 0 (by omega) ls (lv_sub hl [0, 1, 2, 3, 4] rfl)
    | succ n ih =>
      intro k hkn ls hl
      obtain ⟨d, hd, ud, ed, cd⟩ := pq_kth (vh1 := vh1) (vh2 := vh2) (show 0 < 2 by decide) g1 g2 (show k < zl_nn up 0 by omega)
      have cd : j_X2_cardAt vh1 vh2 0 (nI k) = nI d := cd
      have hcd : ¬ j_X2_isCard (nI d) = 0 := by rw [zr_isCard hd]; decide
      have hne : ¬ j_X2_cardAt vh1 vh2 0 (nI k) = -1 := by rw [cd]; exact zs_nm1 d hd
      have c1 : ¬ j_X2_cards vh1 vh2 0 ≤ nI k := by rw [hC0]; exact nI_ge (by omega) (by omega)
      have c2 : j_X2_placeOf vtr vled vh1 vt1 vh2 vt2 (nI d) = 0 := (hpl d hd).1.trans ud
      rcases Nat.eq_zero_or_pos k with k00 | k00
      · have c3 : nI k = 0 := by rw [k00]; rfl
        refine lv_iload hx hb dL_isLaidRight_279 (lv_at hl 0 rfl) ?_
        refine lv_aload_n hx hb dL_isLaidRight_281 rfl (lv_at hl 4 rfl) ?_
        refine lv_iload hx hb dL_isLaidRight_282 (lv_at hl 1 rfl) ?_
        refine jr_callV (n := 1) (C := RX2) (As := [.int 0]) (rest := [.int (nI k)]) S (c_X2_cards a0 aR aF aG cI vrow vdrawn vtr vled vmov vw1 vw2 veo veb vh1 vt1 vp1 vk1 vg1 vh2 vt2 vp2 vk2 vg2 0 hA0) gL_isLaidRight_X2_cards rfl (by decide +kernel) rfl ⟨⟨rfl, rfl⟩, ⟨Nat.le_of_ble_eq_true rfl, Nat.le_of_ble_eq_true rfl⟩, Nat.le_of_ble_eq_true rfl, Nat.le_of_ble_eq_true rfl⟩ hP hK hN [0, 1, 2, 3] [0] rfl rfl 0 2 rfl rfl rfl (lv_nil hl) rfl (Nat.le_of_ble_eq_true rfl) dL_isLaidRight_284 ?_
        refine lv_icmp_ge (tgt := 349) hx hb dL_isLaidRight_287 (by decide) (fun c_ => absurd c_ c1) (fun _ => ?_)
        refine lv_aload_n hx hb dL_isLaidRight_290 rfl (lv_at hl 4 rfl) ?_
        refine lv_iload hx hb dL_isLaidRight_291 (lv_at hl 1 rfl) ?_
        refine lv_iload hx hb dL_isLaidRight_293 (lv_at hl 0 rfl) ?_
        refine jr_callV (n := 2) (C := RX2) (As := [.int 0, .int (nI k)]) (rest := []) S (c_X2_cardAt a0 aR aF aG cI vrow vdrawn vtr vled vmov vw1 vw2 veo veb vh1 vt1 vp1 vk1 vg1 vh2 vt2 vp2 vk2 vg2 0 (nI k) hne hA0) gL_isLaidRight_X2_cardAt rfl (by decide +kernel) rfl ⟨⟨rfl, rfl⟩, ⟨Nat.le_of_ble_eq_true rfl, Nat.le_of_ble_eq_true rfl⟩, Nat.le_of_ble_eq_true rfl, Nat.le_of_ble_eq_true rfl⟩ hP hK hN [0, 1, 2, 3] [0] rfl rfl 0 2 rfl rfl rfl (lv_nil hl) rfl (Nat.le_of_ble_eq_true rfl) dL_isLaidRight_295 ?_
        rw [cd]
        refine lv_istore (lv' := [(10, .int (nI d)), (9, .int (nI k)), (8, .int 0), (7, .int 1), (2, .int (nI (zl_nn up 0 + zl_nn up 1))), (0, .ref a0)]) hx hb dL_isLaidRight_298 hl (by decide) rfl (fun ls hl => ?_)
        refine lv_iload hx hb dL_isLaidRight_300 (lv_at hl 3 rfl) ?_
        refine lv_if_eq (tgt := 340) hx hb dL_isLaidRight_302 (by decide) (fun c_ => absurd c_ (by decide)) (fun _ => ?_)
        refine lv_aload_n hx hb dL_isLaidRight_305 rfl (lv_at hl 5 rfl) ?_
        refine lv_iload hx hb dL_isLaidRight_306 (lv_at hl 0 rfl) ?_
        refine jr_callV (n := 1) (C := RX2) (As := [.int (nI d)]) (rest := []) S (c_X2_placeOf a0 aR aF aG cI vrow vdrawn vtr vled vmov vw1 vw2 veo veb vh1 vt1 vp1 vk1 vg1 vh2 vt2 vp2 vk2 vg2 (nI d) hcd) gL_isLaidRight_X2_placeOf rfl (by decide +kernel) rfl ⟨⟨rfl, rfl⟩, ⟨Nat.le_of_ble_eq_true rfl, Nat.le_of_ble_eq_true rfl⟩, Nat.le_of_ble_eq_true rfl, Nat.le_of_ble_eq_true rfl⟩ hP hK hN [0, 1, 2, 3] [0] rfl rfl 0 2 rfl rfl rfl (lv_nil hl) rfl (Nat.le_of_ble_eq_true rfl) dL_isLaidRight_308 ?_
        refine lv_iload hx hb dL_isLaidRight_311 (lv_at hl 2 rfl) ?_
        refine lv_icmp_ne (tgt := 340) hx hb dL_isLaidRight_313 (by decide) (fun c_ => absurd c2 c_) (fun _ => ?_)
        refine lv_iload hx hb dL_isLaidRight_316 (lv_at hl 1 rfl) ?_
        refine lv_if_eq (tgt := 336) hx hb dL_isLaidRight_318 (by decide) (fun _ => ?_) (fun c_ => absurd c3 c_)
        refine lv_iconst (v := 1) hx hb dL_isLaidRight_336 (by decide) ?_
        refine lv_goto (tgt := 341) hx hb dL_isLaidRight_337 (by decide) ?_
        refine lv_istore (lv' := [(7, .int 1), (10, .int (nI d)), (9, .int (nI k)), (8, .int 0), (2, .int (nI (zl_nn up 0 + zl_nn up 1))), (0, .ref a0)]) hx hb dL_isLaidRight_341 hl (by decide) rfl (fun ls hl => ?_)
        refine lv_iinc (v := nI (k + 1)) (lv' := [(9, .int (nI (k + 1))), (7, .int 1), (10, .int (nI d)), (8, .int 0), (2, .int (nI (zl_nn up 0 + zl_nn up 1))), (0, .ref a0)]) hx hb dL_isLaidRight_343 hl (k := 2) rfl (nI_1 k) (by decide) rfl (fun ls hl => ?_)
        refine lv_goto (tgt := 279) hx hb dL_isLaidRight_346 (by decide) ?_
        exact ih (k + 1) (by omega) ls (lv_sub hl [0, 3, 1, 4, 5] rfl)
      · obtain ⟨k9, e9⟩ : ∃ k9, k = k9 + 1 := ⟨k - 1, by omega⟩
        obtain ⟨d9, hd9, ud9, ed9, cd9⟩ := pq_kth (vh1 := vh1) (vh2 := vh2) (show 0 < 2 by decide) g1 g2 (show k9 < zl_nn up 0 by omega)
        have cd9 : j_X2_cardAt vh1 vh2 0 (nI k9) = nI d9 := cd9
        have e10 : nI k - 1 = nI k9 := by rw [e9]; exact nI_pred k9
        have hne9 : ¬ j_X2_cardAt vh1 vh2 0 (nI k9) = -1 := by rw [cd9]; exact zs_nm1 d9 hd9
        have c3 : ¬ nI k = 0 := nI_ne0 k00 (by omega)
        have c4 : ¬ nI d ≤ nI d9 := nI_ge (pq_lt (p := zl_p up 0) (by omega)) (by omega)
        refine lv_iload hx hb dL_isLaidRight_279 (lv_at hl 0 rfl) ?_
        refine lv_aload_n hx hb dL_isLaidRight_281 rfl (lv_at hl 4 rfl) ?_
        refine lv_iload hx hb dL_isLaidRight_282 (lv_at hl 1 rfl) ?_
        refine jr_callV (n := 1) (C := RX2) (As := [.int 0]) (rest := [.int (nI k)]) S (c_X2_cards a0 aR aF aG cI vrow vdrawn vtr vled vmov vw1 vw2 veo veb vh1 vt1 vp1 vk1 vg1 vh2 vt2 vp2 vk2 vg2 0 hA0) gL_isLaidRight_X2_cards rfl (by decide +kernel) rfl ⟨⟨rfl, rfl⟩, ⟨Nat.le_of_ble_eq_true rfl, Nat.le_of_ble_eq_true rfl⟩, Nat.le_of_ble_eq_true rfl, Nat.le_of_ble_eq_true rfl⟩ hP hK hN [0, 1, 2, 3] [0] rfl rfl 0 2 rfl rfl rfl (lv_nil hl) rfl (Nat.le_of_ble_eq_true rfl) dL_isLaidRight_284 ?_
        refine lv_icmp_ge (tgt := 349) hx hb dL_isLaidRight_287 (by decide) (fun c_ => absurd c_ c1) (fun _ => ?_)
        refine lv_aload_n hx hb dL_isLaidRight_290 rfl (lv_at hl 4 rfl) ?_
        refine lv_iload hx hb dL_isLaidRight_291 (lv_at hl 1 rfl) ?_
        refine lv_iload hx hb dL_isLaidRight_293 (lv_at hl 0 rfl) ?_
        refine jr_callV (n := 2) (C := RX2) (As := [.int 0, .int (nI k)]) (rest := []) S (c_X2_cardAt a0 aR aF aG cI vrow vdrawn vtr vled vmov vw1 vw2 veo veb vh1 vt1 vp1 vk1 vg1 vh2 vt2 vp2 vk2 vg2 0 (nI k) hne hA0) gL_isLaidRight_X2_cardAt rfl (by decide +kernel) rfl ⟨⟨rfl, rfl⟩, ⟨Nat.le_of_ble_eq_true rfl, Nat.le_of_ble_eq_true rfl⟩, Nat.le_of_ble_eq_true rfl, Nat.le_of_ble_eq_true rfl⟩ hP hK hN [0, 1, 2, 3] [0] rfl rfl 0 2 rfl rfl rfl (lv_nil hl) rfl (Nat.le_of_ble_eq_true rfl) dL_isLaidRight_295 ?_
        rw [cd]
        refine lv_istore (lv' := [(10, .int (nI d)), (9, .int (nI k)), (8, .int 0), (7, .int 1), (2, .int (nI (zl_nn up 0 + zl_nn up 1))), (0, .ref a0)]) hx hb dL_isLaidRight_298 hl (by decide) rfl (fun ls hl => ?_)
        refine lv_iload hx hb dL_isLaidRight_300 (lv_at hl 3 rfl) ?_
        refine lv_if_eq (tgt := 340) hx hb dL_isLaidRight_302 (by decide) (fun c_ => absurd c_ (by decide)) (fun _ => ?_)
        refine lv_aload_n hx hb dL_isLaidRight_305 rfl (lv_at hl 5 rfl) ?_
        refine lv_iload hx hb dL_isLaidRight_306 (lv_at hl 0 rfl) ?_
        refine jr_callV (n := 1) (C := RX2) (As := [.int (nI d)]) (rest := []) S (c_X2_placeOf a0 aR aF aG cI vrow vdrawn vtr vled vmov vw1 vw2 veo veb vh1 vt1 vp1 vk1 vg1 vh2 vt2 vp2 vk2 vg2 (nI d) hcd) gL_isLaidRight_X2_placeOf rfl (by decide +kernel) rfl ⟨⟨rfl, rfl⟩, ⟨Nat.le_of_ble_eq_true rfl, Nat.le_of_ble_eq_true rfl⟩, Nat.le_of_ble_eq_true rfl, Nat.le_of_ble_eq_true rfl⟩ hP hK hN [0, 1, 2, 3] [0] rfl rfl 0 2 rfl rfl rfl (lv_nil hl) rfl (Nat.le_of_ble_eq_true rfl) dL_isLaidRight_308 ?_
        refine lv_iload hx hb dL_isLaidRight_311 (lv_at hl 2 rfl) ?_
        refine lv_icmp_ne (tgt := 340) hx hb dL_isLaidRight_313 (by decide) (fun c_ => absurd c2 c_) (fun _ => ?_)
        refine lv_iload hx hb dL_isLaidRight_316 (lv_at hl 1 rfl) ?_
        refine lv_if_eq (tgt := 336) hx hb dL_isLaidRight_318 (by decide) (fun c_ => absurd c_ c3) (fun _ => ?_)
        refine lv_aload_n hx hb dL_isLaidRight_321 rfl (lv_at hl 5 rfl) ?_
        refine lv_iload hx hb dL_isLaidRight_322 (lv_at hl 2 rfl) ?_
        refine lv_iload hx hb dL_isLaidRight_324 (lv_at hl 1 rfl) ?_
        refine lv_iconst (v := 1) hx hb dL_isLaidRight_326 (by decide) ?_
        refine lv_isub hx hb dL_isLaidRight_327 ?_
        rw [e10]
        refine jr_callV (n := 2) (C := RX2) (As := [.int 0, .int (nI k9)]) (rest := []) S (c_X2_cardAt a0 aR aF aG cI vrow vdrawn vtr vled vmov vw1 vw2 veo veb vh1 vt1 vp1 vk1 vg1 vh2 vt2 vp2 vk2 vg2 0 (nI k9) hne9 hA0) gL_isLaidRight_X2_cardAt rfl (by decide +kernel) rfl ⟨⟨rfl, rfl⟩, ⟨Nat.le_of_ble_eq_true rfl, Nat.le_of_ble_eq_true rfl⟩, Nat.le_of_ble_eq_true rfl, Nat.le_of_ble_eq_true rfl⟩ hP hK hN [0, 1, 2, 3] [0] rfl rfl 0 2 rfl rfl rfl (lv_nil hl) rfl (Nat.le_of_ble_eq_true rfl) dL_isLaidRight_328 ?_
        rw [cd9]
        refine lv_iload hx hb dL_isLaidRight_331 (lv_at hl 0 rfl) ?_
        refine lv_icmp_ge (tgt := 340) hx hb dL_isLaidRight_333 (by decide) (fun c_ => absurd c_ c4) (fun _ => ?_)
        refine lv_iconst (v := 1) hx hb dL_isLaidRight_336 (by decide) ?_
        refine lv_goto (tgt := 341) hx hb dL_isLaidRight_337 (by decide) ?_
        refine lv_istore (lv' := [(7, .int 1), (10, .int (nI d)), (9, .int (nI k)), (8, .int 0), (2, .int (nI (zl_nn up 0 + zl_nn up 1))), (0, .ref a0)]) hx hb dL_isLaidRight_341 hl (by decide) rfl (fun ls hl => ?_)
        refine lv_iinc (v := nI (k + 1)) (lv' := [(9, .int (nI (k + 1))), (7, .int 1), (10, .int (nI d)), (8, .int 0), (2, .int (nI (zl_nn up 0 + zl_nn up 1))), (0, .ref a0)]) hx hb dL_isLaidRight_343 hl (k := 2) rfl (nI_1 k) (by decide) rfl (fun ls hl => ?_)
        refine lv_goto (tgt := 279) hx hb dL_isLaidRight_346 (by decide) ?_
        exact ih (k + 1) (by omega) ls (lv_sub hl [0, 3, 1, 4, 5] rfl)
  have K2 : ∀ (ls : Array Slot), lv_has ls 11 [(2, .int (nI (zl_nn up 0 + zl_nn up 1))), (3, .int (nI (zl_nn up 2))), (4, .int (nI (zl_nn up 3))), (5, .int (nI (zl_nn up 4 + zl_nn up 5))), (6, .int (pq_sum up 42)), (7, .int 1), (0, .ref a0), (1, .int x0)] → W p l e rL_isLaidRight s m ([.ref a0, .int x0] : List Value).toArray below meth c s.heap [] 0 0 (MQ below (k2_QcV (.int 1)) ([.ref a0, .int x0] : List Value).toArray s 0 0 (fun _ => False)) (F0 m 177 ls []) := by
    intro ls hl
    have c1 : nI (zl_nn up 0 + zl_nn up 1) = (j_X2_cards vh1 vh2 0) + (j_X2_cards vh1 vh2 1) := by rw [hC0, hC1, nI_add]
    have c2 : nI (zl_nn up 2) = j_X2_pile vdrawn := by rw [hpile, show 30 - 2 * E = zl_nn up 2 by omega]
    have c4 : nI (zl_nn up 4 + zl_nn up 5) = 2 * ((j_X2_tricks vk1 vk2 0) + (j_X2_tricks vk1 vk2 1)) := by
      show _ = 2 * (vk1 + vk2)
      rw [hk0, hk1, nI_add, show (2 : Int32) = nI 2 from rfl, pk_mul, hk]
    have c5 : (j_X2_points vp1 vp2 0) + (j_X2_points vp1 vp2 1) = (pq_sum up 42) + (5 * x0) := hpt
    rcases h3 with ⟨l1, z3⟩ | ⟨l9, hl9, l1, z3⟩
    · have c3 : ¬ 0 ≤ j_X2_led vled := by rw [l1]; decide
      have c6 : nI (zl_nn up 3) = 0 := by rw [z3]; rfl
      refine lv_iload hx hb dL_isLaidRight_177 (lv_at hl 5 rfl) ?_
      refine lv_if_eq (tgt := 264) hx hb dL_isLaidRight_179 (by decide) (fun c_ => absurd c_ (by decide)) (fun _ => ?_)
      refine lv_iload_n hx hb dL_isLaidRight_182 rfl (lv_at hl 0 rfl) ?_
      refine lv_aload_n hx hb dL_isLaidRight_183 rfl (lv_at hl 6 rfl) ?_
      refine lv_iconst (v := 0) hx hb dL_isLaidRight_184 (by decide) ?_
      refine jr_callV (n := 1) (C := RX2) (As := [.int 0]) (rest := [.int (nI (zl_nn up 0 + zl_nn up 1))]) S (c_X2_cards a0 aR aF aG cI vrow vdrawn vtr vled vmov vw1 vw2 veo veb vh1 vt1 vp1 vk1 vg1 vh2 vt2 vp2 vk2 vg2 0 hA0) gL_isLaidRight_X2_cards rfl (by decide +kernel) rfl ⟨⟨rfl, rfl⟩, ⟨Nat.le_of_ble_eq_true rfl, Nat.le_of_ble_eq_true rfl⟩, Nat.le_of_ble_eq_true rfl, Nat.le_of_ble_eq_true rfl⟩ hP hK hN [0, 1, 2, 3] [0] rfl rfl 0 2 rfl rfl rfl (lv_nil hl) rfl (Nat.le_of_ble_eq_true rfl) dL_isLaidRight_185 ?_
      refine lv_aload_n hx hb dL_isLaidRight_188 rfl (lv_at hl 6 rfl) ?_
      refine lv_iconst (v := 1) hx hb dL_isLaidRight_189 (by decide) ?_
      refine jr_callV (n := 1) (C := RX2) (As := [.int 1]) (rest := [.int (j_X2_cards vh1 vh2 0), .int (nI (zl_nn up 0 + zl_nn up 1))]) S (c_X2_cards a0 aR aF aG cI vrow vdrawn vtr vled vmov vw1 vw2 veo veb vh1 vt1 vp1 vk1 vg1 vh2 vt2 vp2 vk2 vg2 1 hA1) gL_isLaidRight_X2_cards rfl (by decide +kernel) rfl ⟨⟨rfl, rfl⟩, ⟨Nat.le_of_ble_eq_true rfl, Nat.le_of_ble_eq_true rfl⟩, Nat.le_of_ble_eq_true rfl, Nat.le_of_ble_eq_true rfl⟩ hP hK hN [0, 1, 2, 3] [0] rfl rfl 0 2 rfl rfl rfl (lv_nil hl) rfl (Nat.le_of_ble_eq_true rfl) dL_isLaidRight_190 ?_
      refine lv_iadd hx hb dL_isLaidRight_193 ?_
      refine lv_icmp_ne (tgt := 264) hx hb dL_isLaidRight_194 (by decide) (fun c_ => absurd c1 c_) (fun _ => ?_)
      refine lv_iload_n hx hb dL_isLaidRight_197 rfl (lv_at hl 1 rfl) ?_
      refine lv_aload_n hx hb dL_isLaidRight_198 rfl (lv_at hl 6 rfl) ?_
      refine jr_callV (n := 0) (C := RX2) (As := []) (rest := [.int (nI (zl_nn up 2))]) S (c_X2_pile a0 aR aF aG cI vrow vdrawn vtr vled vmov vw1 vw2 veo veb vh1 vt1 vp1 vk1 vg1 vh2 vt2 vp2 vk2 vg2) gL_isLaidRight_X2_pile rfl (by decide +kernel) rfl ⟨⟨rfl, rfl⟩, ⟨Nat.le_of_ble_eq_true rfl, Nat.le_of_ble_eq_true rfl⟩, Nat.le_of_ble_eq_true rfl, Nat.le_of_ble_eq_true rfl⟩ hP hK hN [0, 1, 2, 3] [0] rfl rfl 0 2 rfl rfl rfl (lv_nil hl) rfl (Nat.le_of_ble_eq_true rfl) dL_isLaidRight_199 ?_
      refine lv_icmp_ne (tgt := 264) hx hb dL_isLaidRight_202 (by decide) (fun c_ => absurd c2 c_) (fun _ => ?_)
      refine lv_iload hx hb dL_isLaidRight_205 (lv_at hl 2 rfl) ?_
      refine lv_aload_n hx hb dL_isLaidRight_207 rfl (lv_at hl 6 rfl) ?_
      refine jr_callV (n := 0) (C := RX2) (As := []) (rest := [.int (nI (zl_nn up 3))]) S (c_X2_led a0 aR aF aG cI vrow vdrawn vtr vled vmov vw1 vw2 veo veb vh1 vt1 vp1 vk1 vg1 vh2 vt2 vp2 vk2 vg2) gL_isLaidRight_X2_led rfl (by decide +kernel) rfl ⟨⟨rfl, rfl⟩, ⟨Nat.le_of_ble_eq_true rfl, Nat.le_of_ble_eq_true rfl⟩, Nat.le_of_ble_eq_true rfl, Nat.le_of_ble_eq_true rfl⟩ hP hK hN [0, 1, 2, 3] [0] rfl rfl 0 2 rfl rfl rfl (lv_nil hl) rfl (Nat.le_of_ble_eq_true rfl) dL_isLaidRight_208 ?_
      refine lv_if_ge (tgt := 218) hx hb dL_isLaidRight_211 (by decide) (fun c_ => absurd c_ c3) (fun _ => ?_)
      refine lv_iconst (v := 0) hx hb dL_isLaidRight_214 (by decide) ?_
      refine lv_goto (tgt := 219) hx hb dL_isLaidRight_215 (by decide) ?_
      refine lv_icmp_ne (tgt := 264) hx hb dL_isLaidRight_219 (by decide) (fun c_ => absurd c6 c_) (fun _ => ?_)
      refine lv_iload hx hb dL_isLaidRight_222 (lv_at hl 3 rfl) ?_
      refine lv_iconst (v := 2) hx hb dL_isLaidRight_224 (by decide) ?_
      refine lv_aload_n hx hb dL_isLaidRight_225 rfl (lv_at hl 6 rfl) ?_
      refine lv_iconst (v := 0) hx hb dL_isLaidRight_226 (by decide) ?_
      refine jr_callV (n := 1) (C := RX2) (As := [.int 0]) (rest := [.int 2, .int (nI (zl_nn up 4 + zl_nn up 5))]) S (c_X2_tricks a0 aR aF aG cI vrow vdrawn vtr vled vmov vw1 vw2 veo veb vh1 vt1 vp1 vk1 vg1 vh2 vt2 vp2 vk2 vg2 0 hA0) gL_isLaidRight_X2_tricks rfl (by decide +kernel) rfl ⟨⟨rfl, rfl⟩, ⟨Nat.le_of_ble_eq_true rfl, Nat.le_of_ble_eq_true rfl⟩, Nat.le_of_ble_eq_true rfl, Nat.le_of_ble_eq_true rfl⟩ hP hK hN [0, 1, 2, 3] [0] rfl rfl 0 2 rfl rfl rfl (lv_nil hl) rfl (Nat.le_of_ble_eq_true rfl) dL_isLaidRight_227 ?_
      refine lv_aload_n hx hb dL_isLaidRight_230 rfl (lv_at hl 6 rfl) ?_
      refine lv_iconst (v := 1) hx hb dL_isLaidRight_231 (by decide) ?_
      refine jr_callV (n := 1) (C := RX2) (As := [.int 1]) (rest := [.int (j_X2_tricks vk1 vk2 0), .int 2, .int (nI (zl_nn up 4 + zl_nn up 5))]) S (c_X2_tricks a0 aR aF aG cI vrow vdrawn vtr vled vmov vw1 vw2 veo veb vh1 vt1 vp1 vk1 vg1 vh2 vt2 vp2 vk2 vg2 1 hA1) gL_isLaidRight_X2_tricks rfl (by decide +kernel) rfl ⟨⟨rfl, rfl⟩, ⟨Nat.le_of_ble_eq_true rfl, Nat.le_of_ble_eq_true rfl⟩, Nat.le_of_ble_eq_true rfl, Nat.le_of_ble_eq_true rfl⟩ hP hK hN [0, 1, 2, 3] [0] rfl rfl 0 2 rfl rfl rfl (lv_nil hl) rfl (Nat.le_of_ble_eq_true rfl) dL_isLaidRight_232 ?_
      refine lv_iadd hx hb dL_isLaidRight_235 ?_
      refine lv_imul hx hb dL_isLaidRight_236 ?_
      refine lv_icmp_ne (tgt := 264) hx hb dL_isLaidRight_237 (by decide) (fun c_ => absurd c4 c_) (fun _ => ?_)
      refine lv_aload_n hx hb dL_isLaidRight_240 rfl (lv_at hl 6 rfl) ?_
      refine lv_iconst (v := 0) hx hb dL_isLaidRight_241 (by decide) ?_
      refine jr_callV (n := 1) (C := RX2) (As := [.int 0]) (rest := []) S (c_X2_points a0 aR aF aG cI vrow vdrawn vtr vled vmov vw1 vw2 veo veb vh1 vt1 vp1 vk1 vg1 vh2 vt2 vp2 vk2 vg2 0 hA0) gL_isLaidRight_X2_points rfl (by decide +kernel) rfl ⟨⟨rfl, rfl⟩, ⟨Nat.le_of_ble_eq_true rfl, Nat.le_of_ble_eq_true rfl⟩, Nat.le_of_ble_eq_true rfl, Nat.le_of_ble_eq_true rfl⟩ hP hK hN [0, 1, 2, 3] [0] rfl rfl 0 2 rfl rfl rfl (lv_nil hl) rfl (Nat.le_of_ble_eq_true rfl) dL_isLaidRight_242 ?_
      refine lv_aload_n hx hb dL_isLaidRight_245 rfl (lv_at hl 6 rfl) ?_
      refine lv_iconst (v := 1) hx hb dL_isLaidRight_246 (by decide) ?_
      refine jr_callV (n := 1) (C := RX2) (As := [.int 1]) (rest := [.int (j_X2_points vp1 vp2 0)]) S (c_X2_points a0 aR aF aG cI vrow vdrawn vtr vled vmov vw1 vw2 veo veb vh1 vt1 vp1 vk1 vg1 vh2 vt2 vp2 vk2 vg2 1 hA1) gL_isLaidRight_X2_points rfl (by decide +kernel) rfl ⟨⟨rfl, rfl⟩, ⟨Nat.le_of_ble_eq_true rfl, Nat.le_of_ble_eq_true rfl⟩, Nat.le_of_ble_eq_true rfl, Nat.le_of_ble_eq_true rfl⟩ hP hK hN [0, 1, 2, 3] [0] rfl rfl 0 2 rfl rfl rfl (lv_nil hl) rfl (Nat.le_of_ble_eq_true rfl) dL_isLaidRight_247 ?_
      refine lv_iadd hx hb dL_isLaidRight_250 ?_
      refine lv_iload hx hb dL_isLaidRight_251 (lv_at hl 4 rfl) ?_
      refine lv_iconst (v := 5) hx hb dL_isLaidRight_253 (by decide) ?_
      refine lv_iload_n hx hb dL_isLaidRight_254 rfl (lv_at hl 7 rfl) ?_
      refine lv_imul hx hb dL_isLaidRight_255 ?_
      refine lv_iadd hx hb dL_isLaidRight_256 ?_
      refine lv_icmp_ne (tgt := 264) hx hb dL_isLaidRight_257 (by decide) (fun c_ => absurd c5 c_) (fun _ => ?_)
      refine lv_iconst (v := 1) hx hb dL_isLaidRight_260 (by decide) ?_
      refine lv_goto (tgt := 265) hx hb dL_isLaidRight_261 (by decide) ?_
      refine lv_istore (lv' := [(7, .int 1), (2, .int (nI (zl_nn up 0 + zl_nn up 1))), (3, .int (nI (zl_nn up 2))), (4, .int (nI (zl_nn up 3))), (5, .int (nI (zl_nn up 4 + zl_nn up 5))), (6, .int (pq_sum up 42)), (0, .ref a0), (1, .int x0)]) hx hb dL_isLaidRight_265 hl (by decide) rfl (fun ls hl => ?_)
      refine lv_iconst (v := 0) hx hb dL_isLaidRight_267 (by decide) ?_
      refine lv_istore (lv' := [(8, .int 0), (7, .int 1), (2, .int (nI (zl_nn up 0 + zl_nn up 1))), (3, .int (nI (zl_nn up 2))), (4, .int (nI (zl_nn up 3))), (5, .int (nI (zl_nn up 4 + zl_nn up 5))), (6, .int (pq_sum up 42)), (0, .ref a0), (1, .int x0)]) hx hb dL_isLaidRight_268 hl (by decide) rfl (fun ls hl => ?_)
      refine lv_iload hx hb dL_isLaidRight_270 (lv_at hl 0 rfl) ?_
      refine lv_iconst (v := 2) hx hb dL_isLaidRight_272 (by decide) ?_
      refine lv_icmp_ge (tgt := 355) hx hb dL_isLaidRight_273 (by decide) (fun c_ => absurd c_ (by decide)) (fun _ => ?_)
      refine lv_iconst (v := 0) hx hb dL_isLaidRight_276 (by decide) ?_
      refine lv_istore (lv' := [(9, .int 0), (8, .int 0), (7, .int 1), (2, .int (nI (zl_nn up 0 + zl_nn up 1))), (3, .int (nI (zl_nn up 2))), (4, .int (nI (zl_nn up 3))), (5, .int (nI (zl_nn up 4 + zl_nn up 5))), (6, .int (pq_sum up 42)), (0, .ref a0), (1, .int x0)]) hx hb dL_isLaidRight_277 hl (by decide) rfl (fun ls hl => ?_)
      exact H0 (zl_nn up 0) 0 (by omega) ls (lv_sub hl [0, 1, 2, 3, 8] rfl)
    · have c3 : 0 ≤ j_X2_led vled := by rw [l1]; exact nI_pos' (show l9 < 2 ^ 31 by omega)
      have c6 : nI (zl_nn up 3) = 1 := by rw [z3]; rfl
      refine lv_iload hx hb dL_isLaidRight_177 (lv_at hl 5 rfl) ?_
      refine lv_if_eq (tgt := 264) hx hb dL_isLaidRight_179 (by decide) (fun c_ => absurd c_ (by decide)) (fun _ => ?_)
      refine lv_iload_n hx hb dL_isLaidRight_182 rfl (lv_at hl 0 rfl) ?_
      refine lv_aload_n hx hb dL_isLaidRight_183 rfl (lv_at hl 6 rfl) ?_
      refine lv_iconst (v := 0) hx hb dL_isLaidRight_184 (by decide) ?_
      refine jr_callV (n := 1) (C := RX2) (As := [.int 0]) (rest := [.int (nI (zl_nn up 0 + zl_nn up 1))]) S (c_X2_cards a0 aR aF aG cI vrow vdrawn vtr vled vmov vw1 vw2 veo veb vh1 vt1 vp1 vk1 vg1 vh2 vt2 vp2 vk2 vg2 0 hA0) gL_isLaidRight_X2_cards rfl (by decide +kernel) rfl ⟨⟨rfl, rfl⟩, ⟨Nat.le_of_ble_eq_true rfl, Nat.le_of_ble_eq_true rfl⟩, Nat.le_of_ble_eq_true rfl, Nat.le_of_ble_eq_true rfl⟩ hP hK hN [0, 1, 2, 3] [0] rfl rfl 0 2 rfl rfl rfl (lv_nil hl) rfl (Nat.le_of_ble_eq_true rfl) dL_isLaidRight_185 ?_
      refine lv_aload_n hx hb dL_isLaidRight_188 rfl (lv_at hl 6 rfl) ?_
      refine lv_iconst (v := 1) hx hb dL_isLaidRight_189 (by decide) ?_
      refine jr_callV (n := 1) (C := RX2) (As := [.int 1]) (rest := [.int (j_X2_cards vh1 vh2 0), .int (nI (zl_nn up 0 + zl_nn up 1))]) S (c_X2_cards a0 aR aF aG cI vrow vdrawn vtr vled vmov vw1 vw2 veo veb vh1 vt1 vp1 vk1 vg1 vh2 vt2 vp2 vk2 vg2 1 hA1) gL_isLaidRight_X2_cards rfl (by decide +kernel) rfl ⟨⟨rfl, rfl⟩, ⟨Nat.le_of_ble_eq_true rfl, Nat.le_of_ble_eq_true rfl⟩, Nat.le_of_ble_eq_true rfl, Nat.le_of_ble_eq_true rfl⟩ hP hK hN [0, 1, 2, 3] [0] rfl rfl 0 2 rfl rfl rfl (lv_nil hl) rfl (Nat.le_of_ble_eq_true rfl) dL_isLaidRight_190 ?_
      refine lv_iadd hx hb dL_isLaidRight_193 ?_
      refine lv_icmp_ne (tgt := 264) hx hb dL_isLaidRight_194 (by decide) (fun c_ => absurd c1 c_) (fun _ => ?_)
      refine lv_iload_n hx hb dL_isLaidRight_197 rfl (lv_at hl 1 rfl) ?_
      refine lv_aload_n hx hb dL_isLaidRight_198 rfl (lv_at hl 6 rfl) ?_
      refine jr_callV (n := 0) (C := RX2) (As := []) (rest := [.int (nI (zl_nn up 2))]) S (c_X2_pile a0 aR aF aG cI vrow vdrawn vtr vled vmov vw1 vw2 veo veb vh1 vt1 vp1 vk1 vg1 vh2 vt2 vp2 vk2 vg2) gL_isLaidRight_X2_pile rfl (by decide +kernel) rfl ⟨⟨rfl, rfl⟩, ⟨Nat.le_of_ble_eq_true rfl, Nat.le_of_ble_eq_true rfl⟩, Nat.le_of_ble_eq_true rfl, Nat.le_of_ble_eq_true rfl⟩ hP hK hN [0, 1, 2, 3] [0] rfl rfl 0 2 rfl rfl rfl (lv_nil hl) rfl (Nat.le_of_ble_eq_true rfl) dL_isLaidRight_199 ?_
      refine lv_icmp_ne (tgt := 264) hx hb dL_isLaidRight_202 (by decide) (fun c_ => absurd c2 c_) (fun _ => ?_)
      refine lv_iload hx hb dL_isLaidRight_205 (lv_at hl 2 rfl) ?_
      refine lv_aload_n hx hb dL_isLaidRight_207 rfl (lv_at hl 6 rfl) ?_
      refine jr_callV (n := 0) (C := RX2) (As := []) (rest := [.int (nI (zl_nn up 3))]) S (c_X2_led a0 aR aF aG cI vrow vdrawn vtr vled vmov vw1 vw2 veo veb vh1 vt1 vp1 vk1 vg1 vh2 vt2 vp2 vk2 vg2) gL_isLaidRight_X2_led rfl (by decide +kernel) rfl ⟨⟨rfl, rfl⟩, ⟨Nat.le_of_ble_eq_true rfl, Nat.le_of_ble_eq_true rfl⟩, Nat.le_of_ble_eq_true rfl, Nat.le_of_ble_eq_true rfl⟩ hP hK hN [0, 1, 2, 3] [0] rfl rfl 0 2 rfl rfl rfl (lv_nil hl) rfl (Nat.le_of_ble_eq_true rfl) dL_isLaidRight_208 ?_
      refine lv_if_ge (tgt := 218) hx hb dL_isLaidRight_211 (by decide) (fun _ => ?_) (fun c_ => absurd c3 c_)
      refine lv_iconst (v := 1) hx hb dL_isLaidRight_218 (by decide) ?_
      refine lv_icmp_ne (tgt := 264) hx hb dL_isLaidRight_219 (by decide) (fun c_ => absurd c6 c_) (fun _ => ?_)
      refine lv_iload hx hb dL_isLaidRight_222 (lv_at hl 3 rfl) ?_
      refine lv_iconst (v := 2) hx hb dL_isLaidRight_224 (by decide) ?_
      refine lv_aload_n hx hb dL_isLaidRight_225 rfl (lv_at hl 6 rfl) ?_
      refine lv_iconst (v := 0) hx hb dL_isLaidRight_226 (by decide) ?_
      refine jr_callV (n := 1) (C := RX2) (As := [.int 0]) (rest := [.int 2, .int (nI (zl_nn up 4 + zl_nn up 5))]) S (c_X2_tricks a0 aR aF aG cI vrow vdrawn vtr vled vmov vw1 vw2 veo veb vh1 vt1 vp1 vk1 vg1 vh2 vt2 vp2 vk2 vg2 0 hA0) gL_isLaidRight_X2_tricks rfl (by decide +kernel) rfl ⟨⟨rfl, rfl⟩, ⟨Nat.le_of_ble_eq_true rfl, Nat.le_of_ble_eq_true rfl⟩, Nat.le_of_ble_eq_true rfl, Nat.le_of_ble_eq_true rfl⟩ hP hK hN [0, 1, 2, 3] [0] rfl rfl 0 2 rfl rfl rfl (lv_nil hl) rfl (Nat.le_of_ble_eq_true rfl) dL_isLaidRight_227 ?_
      refine lv_aload_n hx hb dL_isLaidRight_230 rfl (lv_at hl 6 rfl) ?_
      refine lv_iconst (v := 1) hx hb dL_isLaidRight_231 (by decide) ?_
      refine jr_callV (n := 1) (C := RX2) (As := [.int 1]) (rest := [.int (j_X2_tricks vk1 vk2 0), .int 2, .int (nI (zl_nn up 4 + zl_nn up 5))]) S (c_X2_tricks a0 aR aF aG cI vrow vdrawn vtr vled vmov vw1 vw2 veo veb vh1 vt1 vp1 vk1 vg1 vh2 vt2 vp2 vk2 vg2 1 hA1) gL_isLaidRight_X2_tricks rfl (by decide +kernel) rfl ⟨⟨rfl, rfl⟩, ⟨Nat.le_of_ble_eq_true rfl, Nat.le_of_ble_eq_true rfl⟩, Nat.le_of_ble_eq_true rfl, Nat.le_of_ble_eq_true rfl⟩ hP hK hN [0, 1, 2, 3] [0] rfl rfl 0 2 rfl rfl rfl (lv_nil hl) rfl (Nat.le_of_ble_eq_true rfl) dL_isLaidRight_232 ?_
      refine lv_iadd hx hb dL_isLaidRight_235 ?_
      refine lv_imul hx hb dL_isLaidRight_236 ?_
      refine lv_icmp_ne (tgt := 264) hx hb dL_isLaidRight_237 (by decide) (fun c_ => absurd c4 c_) (fun _ => ?_)
      refine lv_aload_n hx hb dL_isLaidRight_240 rfl (lv_at hl 6 rfl) ?_
      refine lv_iconst (v := 0) hx hb dL_isLaidRight_241 (by decide) ?_
      refine jr_callV (n := 1) (C := RX2) (As := [.int 0]) (rest := []) S (c_X2_points a0 aR aF aG cI vrow vdrawn vtr vled vmov vw1 vw2 veo veb vh1 vt1 vp1 vk1 vg1 vh2 vt2 vp2 vk2 vg2 0 hA0) gL_isLaidRight_X2_points rfl (by decide +kernel) rfl ⟨⟨rfl, rfl⟩, ⟨Nat.le_of_ble_eq_true rfl, Nat.le_of_ble_eq_true rfl⟩, Nat.le_of_ble_eq_true rfl, Nat.le_of_ble_eq_true rfl⟩ hP hK hN [0, 1, 2, 3] [0] rfl rfl 0 2 rfl rfl rfl (lv_nil hl) rfl (Nat.le_of_ble_eq_true rfl) dL_isLaidRight_242 ?_
      refine lv_aload_n hx hb dL_isLaidRight_245 rfl (lv_at hl 6 rfl) ?_
      refine lv_iconst (v := 1) hx hb dL_isLaidRight_246 (by decide) ?_
      refine jr_callV (n := 1) (C := RX2) (As := [.int 1]) (rest := [.int (j_X2_points vp1 vp2 0)]) S (c_X2_points a0 aR aF aG cI vrow vdrawn vtr vled vmov vw1 vw2 veo veb vh1 vt1 vp1 vk1 vg1 vh2 vt2 vp2 vk2 vg2 1 hA1) gL_isLaidRight_X2_points rfl (by decide +kernel) rfl ⟨⟨rfl, rfl⟩, ⟨Nat.le_of_ble_eq_true rfl, Nat.le_of_ble_eq_true rfl⟩, Nat.le_of_ble_eq_true rfl, Nat.le_of_ble_eq_true rfl⟩ hP hK hN [0, 1, 2, 3] [0] rfl rfl 0 2 rfl rfl rfl (lv_nil hl) rfl (Nat.le_of_ble_eq_true rfl) dL_isLaidRight_247 ?_
      refine lv_iadd hx hb dL_isLaidRight_250 ?_
      refine lv_iload hx hb dL_isLaidRight_251 (lv_at hl 4 rfl) ?_
      refine lv_iconst (v := 5) hx hb dL_isLaidRight_253 (by decide) ?_
      refine lv_iload_n hx hb dL_isLaidRight_254 rfl (lv_at hl 7 rfl) ?_
      refine lv_imul hx hb dL_isLaidRight_255 ?_
      refine lv_iadd hx hb dL_isLaidRight_256 ?_
      refine lv_icmp_ne (tgt := 264) hx hb dL_isLaidRight_257 (by decide) (fun c_ => absurd c5 c_) (fun _ => ?_)
      refine lv_iconst (v := 1) hx hb dL_isLaidRight_260 (by decide) ?_
      refine lv_goto (tgt := 265) hx hb dL_isLaidRight_261 (by decide) ?_
      refine lv_istore (lv' := [(7, .int 1), (2, .int (nI (zl_nn up 0 + zl_nn up 1))), (3, .int (nI (zl_nn up 2))), (4, .int (nI (zl_nn up 3))), (5, .int (nI (zl_nn up 4 + zl_nn up 5))), (6, .int (pq_sum up 42)), (0, .ref a0), (1, .int x0)]) hx hb dL_isLaidRight_265 hl (by decide) rfl (fun ls hl => ?_)
      refine lv_iconst (v := 0) hx hb dL_isLaidRight_267 (by decide) ?_
      refine lv_istore (lv' := [(8, .int 0), (7, .int 1), (2, .int (nI (zl_nn up 0 + zl_nn up 1))), (3, .int (nI (zl_nn up 2))), (4, .int (nI (zl_nn up 3))), (5, .int (nI (zl_nn up 4 + zl_nn up 5))), (6, .int (pq_sum up 42)), (0, .ref a0), (1, .int x0)]) hx hb dL_isLaidRight_268 hl (by decide) rfl (fun ls hl => ?_)
      refine lv_iload hx hb dL_isLaidRight_270 (lv_at hl 0 rfl) ?_
      refine lv_iconst (v := 2) hx hb dL_isLaidRight_272 (by decide) ?_
      refine lv_icmp_ge (tgt := 355) hx hb dL_isLaidRight_273 (by decide) (fun c_ => absurd c_ (by decide)) (fun _ => ?_)
      refine lv_iconst (v := 0) hx hb dL_isLaidRight_276 (by decide) ?_
      refine lv_istore (lv' := [(9, .int 0), (8, .int 0), (7, .int 1), (2, .int (nI (zl_nn up 0 + zl_nn up 1))), (3, .int (nI (zl_nn up 2))), (4, .int (nI (zl_nn up 3))), (5, .int (nI (zl_nn up 4 + zl_nn up 5))), (6, .int (pq_sum up 42)), (0, .ref a0), (1, .int x0)]) hx hb dL_isLaidRight_277 hl (by decide) rfl (fun ls hl => ?_)
      exact H0 (zl_nn up 0) 0 (by omega) ls (lv_sub hl [0, 1, 2, 3, 8] rfl)
  have lp : ∀ (n i : Nat), i + n = 42 → ∀ (ls : Array Slot), lv_has ls 11 [(8, .int (nI i)), (2, .int (nI (fb_ct (zl_p up 0) i + fb_ct (zl_p up 1) i))), (3, .int (nI (fb_ct (zl_p up 2) i))), (4, .int (nI (fb_ct (zl_p up 3) i))), (5, .int (nI (fb_ct (zl_p up 4) i + fb_ct (zl_p up 5) i))), (6, .int (pq_sum up i)), (7, .int 1), (0, .ref a0), (1, .int x0)] → W p l e rL_isLaidRight s m ([.ref a0, .int x0] : List Value).toArray below meth c s.heap [] 0 0 (MQ below (k2_QcV (.int 1)) ([.ref a0, .int x0] : List Value).toArray s 0 0 (fun _ => False)) (F0 m 19 ls []) := by
    intro n
    induction n with
    | zero =>
      intro i hin ls hl
      have i42 : i = 42 := by omega
      subst i42
      have hge : (42 : Int32) ≤ nI 42 := by decide
      refine lv_iload hx hb dL_isLaidRight_19 (lv_at hl 0 rfl) ?_
      refine lv_bipush (v := 42) hx hb dL_isLaidRight_21 (by decide) ?_
      refine lv_icmp_ge (tgt := 177) hx hb dL_isLaidRight_23 (by decide) (fun _ => ?_) (fun c_ => absurd hge c_)
      exact K2 ls (lv_sub hl [1, 2, 3, 4, 5, 6, 7, 8] rfl)
    | succ n ih =>
      intro i hin ls hl
      have hi : i < 42 := by omega
      have hge : ¬ (42 : Int32) ≤ nI i := nI_ge (a := i) (b := 42) (by omega) (by decide)
      have hci : ¬ j_X2_isCard (nI i) = 0 := by rw [zr_isCard hi]; decide
      obtain ⟨hp, v, hv, uv⟩ := hpl i hi
      have hacc : ∀ w, w < 6 → fb_ct (zl_p up w) (i + 1) = fb_ct (zl_p up w) i + (if v = w then 1 else 0) := fun w hw => pq_acc hw hv uv
      have hL : j_X2_led vled = nI i ↔ v = 3 := by
        have e : up i = nI 3 ↔ v = 3 := by rw [uv]; exact zn_nI (by decide) hv
        rw [← e]
        rcases lo with ⟨q, n3⟩ | ⟨l, hl9, q, i3⟩
        · exact ⟨fun z => absurd (q.symm.trans z).symm (zs_nm1 i hi), fun z => absurd z (n3 i hi)⟩
        · rw [i3 i hi]
          exact ⟨fun z => ((nI_eq (by omega) (by omega)).mp (q.symm.trans z)).symm, fun z => by rw [z]; exact q⟩
      have b_0 := hacc 0 (by decide)
      have b_1 := hacc 1 (by decide)
      have b_2 := hacc 2 (by decide)
      have b_3 := hacc 3 (by decide)
      have b_4 := hacc 4 (by decide)
      have b_5 := hacc 5 (by decide)
      have hv6 : v = 0 ∨ v = 1 ∨ v = 2 ∨ v = 3 ∨ v = 4 ∨ v = 5 := by omega
      rcases hv6 with e | e | e | e | e | e
      · subst e
        have hpv : j_X2_placeOf vtr vled vh1 vt1 vh2 vt2 (nI i) = 0 := hp.trans uv
        have cL : ¬ j_X2_led vled = nI i := fun z => absurd (hL.mp z) (by decide)
        have e2 : nI (fb_ct (zl_p up 0) i + fb_ct (zl_p up 1) i) + 1 = nI (fb_ct (zl_p up 0) (i + 1) + fb_ct (zl_p up 1) (i + 1)) := by
          rw [nI_1]
          congr 1
          simp at b_0 b_1
          omega
        have e3 : nI (fb_ct (zl_p up 2) i) + 0 = nI (fb_ct (zl_p up 2) (i + 1)) := by
          rw [Int32.add_zero]
          congr 1
          simp at b_2
          omega
        have e4 : nI (fb_ct (zl_p up 3) i) + 0 = nI (fb_ct (zl_p up 3) (i + 1)) := by
          rw [Int32.add_zero]
          congr 1
          simp at b_3
          omega
        have e5 : nI (fb_ct (zl_p up 4) i + fb_ct (zl_p up 5) i) + 0 = nI (fb_ct (zl_p up 4) (i + 1) + fb_ct (zl_p up 5) (i + 1)) := by
          rw [Int32.add_zero]
          congr 1
          simp at b_4 b_5
          omega
        have e6 : pq_sum up i + 0 = pq_sum up (i + 1) := by
          rw [pq_sum, if_neg (by rw [uv]; decide)]
        refine lv_iload hx hb dL_isLaidRight_19 (lv_at hl 0 rfl) ?_
        refine lv_bipush (v := 42) hx hb dL_isLaidRight_21 (by decide) ?_
        refine lv_icmp_ge (tgt := 177) hx hb dL_isLaidRight_23 (by decide) (fun c_ => absurd c_ hge) (fun _ => ?_)
        refine lv_aload_n hx hb dL_isLaidRight_26 rfl (lv_at hl 7 rfl) ?_
        refine lv_iload hx hb dL_isLaidRight_27 (lv_at hl 0 rfl) ?_
        refine jr_callV (n := 1) (C := RX2) (As := [.int (nI i)]) (rest := []) S (c_X2_placeOf a0 aR aF aG cI vrow vdrawn vtr vled vmov vw1 vw2 veo veb vh1 vt1 vp1 vk1 vg1 vh2 vt2 vp2 vk2 vg2 (nI i) hci) gL_isLaidRight_X2_placeOf rfl (by decide +kernel) rfl ⟨⟨rfl, rfl⟩, ⟨Nat.le_of_ble_eq_true rfl, Nat.le_of_ble_eq_true rfl⟩, Nat.le_of_ble_eq_true rfl, Nat.le_of_ble_eq_true rfl⟩ hP hK hN [0, 1, 2, 3] [0] rfl rfl 0 2 rfl rfl rfl (lv_nil hl) rfl (Nat.le_of_ble_eq_true rfl) dL_isLaidRight_29 ?_
        rw [hpv]
        refine lv_istore (lv' := [(9, .int 0), (8, .int (nI i)), (2, .int (nI (fb_ct (zl_p up 0) i + fb_ct (zl_p up 1) i))), (3, .int (nI (fb_ct (zl_p up 2) i))), (4, .int (nI (fb_ct (zl_p up 3) i))), (5, .int (nI (fb_ct (zl_p up 4) i + fb_ct (zl_p up 5) i))), (6, .int (pq_sum up i)), (7, .int 1), (0, .ref a0), (1, .int x0)]) hx hb dL_isLaidRight_32 hl (by decide) rfl (fun ls hl => ?_)
        refine lv_iload_n hx hb dL_isLaidRight_34 rfl (lv_at hl 2 rfl) ?_
        refine lv_iload hx hb dL_isLaidRight_35 (lv_at hl 0 rfl) ?_
        refine lv_if_eq (tgt := 46) hx hb dL_isLaidRight_37 (by decide) (fun _ => ?_) (fun c_ => absurd (by decide) c_)
        refine lv_iconst (v := 1) hx hb dL_isLaidRight_46 (by decide) ?_
        refine lv_goto (tgt := 51) hx hb dL_isLaidRight_47 (by decide) ?_
        refine lv_iadd hx hb dL_isLaidRight_51 ?_
        rw [e2]
        refine lv_istore_n (lv' := [(2, .int (nI (fb_ct (zl_p up 0) (i + 1) + fb_ct (zl_p up 1) (i + 1)))), (9, .int 0), (8, .int (nI i)), (3, .int (nI (fb_ct (zl_p up 2) i))), (4, .int (nI (fb_ct (zl_p up 3) i))), (5, .int (nI (fb_ct (zl_p up 4) i + fb_ct (zl_p up 5) i))), (6, .int (pq_sum up i)), (7, .int 1), (0, .ref a0), (1, .int x0)]) hx hb dL_isLaidRight_52 rfl hl (by decide) rfl (fun ls hl => ?_)
        refine lv_iload_n hx hb dL_isLaidRight_53 rfl (lv_at hl 3 rfl) ?_
        refine lv_iload hx hb dL_isLaidRight_54 (lv_at hl 1 rfl) ?_
        refine lv_iconst (v := 2) hx hb dL_isLaidRight_56 (by decide) ?_
        refine lv_icmp_ne (tgt := 64) hx hb dL_isLaidRight_57 (by decide) (fun _ => ?_) (fun c_ => absurd c_ (by decide))
        refine lv_iconst (v := 0) hx hb dL_isLaidRight_64 (by decide) ?_
        refine lv_iadd hx hb dL_isLaidRight_65 ?_
        rw [e3]
        refine lv_istore_n (lv' := [(3, .int (nI (fb_ct (zl_p up 2) (i + 1)))), (2, .int (nI (fb_ct (zl_p up 0) (i + 1) + fb_ct (zl_p up 1) (i + 1)))), (9, .int 0), (8, .int (nI i)), (4, .int (nI (fb_ct (zl_p up 3) i))), (5, .int (nI (fb_ct (zl_p up 4) i + fb_ct (zl_p up 5) i))), (6, .int (pq_sum up i)), (7, .int 1), (0, .ref a0), (1, .int x0)]) hx hb dL_isLaidRight_66 rfl hl (by decide) rfl (fun ls hl => ?_)
        refine lv_iload hx hb dL_isLaidRight_67 (lv_at hl 4 rfl) ?_
        refine lv_iload hx hb dL_isLaidRight_69 (lv_at hl 2 rfl) ?_
        refine lv_iconst (v := 3) hx hb dL_isLaidRight_71 (by decide) ?_
        refine lv_icmp_ne (tgt := 79) hx hb dL_isLaidRight_72 (by decide) (fun _ => ?_) (fun c_ => absurd c_ (by decide))
        refine lv_iconst (v := 0) hx hb dL_isLaidRight_79 (by decide) ?_
        refine lv_iadd hx hb dL_isLaidRight_80 ?_
        rw [e4]
        refine lv_istore (lv' := [(4, .int (nI (fb_ct (zl_p up 3) (i + 1)))), (3, .int (nI (fb_ct (zl_p up 2) (i + 1)))), (2, .int (nI (fb_ct (zl_p up 0) (i + 1) + fb_ct (zl_p up 1) (i + 1)))), (9, .int 0), (8, .int (nI i)), (5, .int (nI (fb_ct (zl_p up 4) i + fb_ct (zl_p up 5) i))), (6, .int (pq_sum up i)), (7, .int 1), (0, .ref a0), (1, .int x0)]) hx hb dL_isLaidRight_81 hl (by decide) rfl (fun ls hl => ?_)
        refine lv_iload hx hb dL_isLaidRight_83 (lv_at hl 5 rfl) ?_
        refine lv_iload hx hb dL_isLaidRight_85 (lv_at hl 3 rfl) ?_
        refine lv_iconst (v := 3) hx hb dL_isLaidRight_87 (by decide) ?_
        refine lv_icmp_le (tgt := 95) hx hb dL_isLaidRight_88 (by decide) (fun _ => ?_) (fun c_ => absurd (by decide) c_)
        refine lv_iconst (v := 0) hx hb dL_isLaidRight_95 (by decide) ?_
        refine lv_iadd hx hb dL_isLaidRight_96 ?_
        rw [e5]
        refine lv_istore (lv' := [(5, .int (nI (fb_ct (zl_p up 4) (i + 1) + fb_ct (zl_p up 5) (i + 1)))), (4, .int (nI (fb_ct (zl_p up 3) (i + 1)))), (3, .int (nI (fb_ct (zl_p up 2) (i + 1)))), (2, .int (nI (fb_ct (zl_p up 0) (i + 1) + fb_ct (zl_p up 1) (i + 1)))), (9, .int 0), (8, .int (nI i)), (6, .int (pq_sum up i)), (7, .int 1), (0, .ref a0), (1, .int x0)]) hx hb dL_isLaidRight_97 hl (by decide) rfl (fun ls hl => ?_)
        refine lv_iload hx hb dL_isLaidRight_99 (lv_at hl 6 rfl) ?_
        refine lv_iload hx hb dL_isLaidRight_101 (lv_at hl 4 rfl) ?_
        refine lv_iconst (v := 3) hx hb dL_isLaidRight_103 (by decide) ?_
        refine lv_icmp_le (tgt := 115) hx hb dL_isLaidRight_104 (by decide) (fun _ => ?_) (fun c_ => absurd (by decide) c_)
        refine lv_iconst (v := 0) hx hb dL_isLaidRight_115 (by decide) ?_
        refine lv_iadd hx hb dL_isLaidRight_116 ?_
        rw [e6]
        refine lv_istore (lv' := [(6, .int (pq_sum up (i + 1))), (5, .int (nI (fb_ct (zl_p up 4) (i + 1) + fb_ct (zl_p up 5) (i + 1)))), (4, .int (nI (fb_ct (zl_p up 3) (i + 1)))), (3, .int (nI (fb_ct (zl_p up 2) (i + 1)))), (2, .int (nI (fb_ct (zl_p up 0) (i + 1) + fb_ct (zl_p up 1) (i + 1)))), (9, .int 0), (8, .int (nI i)), (7, .int 1), (0, .ref a0), (1, .int x0)]) hx hb dL_isLaidRight_117 hl (by decide) rfl (fun ls hl => ?_)
        refine lv_iload hx hb dL_isLaidRight_119 (lv_at hl 7 rfl) ?_
        refine lv_if_eq (tgt := 168) hx hb dL_isLaidRight_121 (by decide) (fun c_ => absurd c_ (by decide)) (fun _ => ?_)
        refine lv_iload hx hb dL_isLaidRight_124 (lv_at hl 5 rfl) ?_
        refine lv_iconst (v := 3) hx hb dL_isLaidRight_126 (by decide) ?_
        refine lv_icmp_ne (tgt := 134) hx hb dL_isLaidRight_127 (by decide) (fun _ => ?_) (fun c_ => absurd c_ (by decide))
        refine lv_iconst (v := 0) hx hb dL_isLaidRight_134 (by decide) ?_
        refine lv_aload_n hx hb dL_isLaidRight_135 rfl (lv_at hl 8 rfl) ?_
        refine jr_callV (n := 0) (C := RX2) (As := []) (rest := [.int 0]) S (c_X2_led a0 aR aF aG cI vrow vdrawn vtr vled vmov vw1 vw2 veo veb vh1 vt1 vp1 vk1 vg1 vh2 vt2 vp2 vk2 vg2) gL_isLaidRight_X2_led rfl (by decide +kernel) rfl ⟨⟨rfl, rfl⟩, ⟨Nat.le_of_ble_eq_true rfl, Nat.le_of_ble_eq_true rfl⟩, Nat.le_of_ble_eq_true rfl, Nat.le_of_ble_eq_true rfl⟩ hP hK hN [0, 1, 2, 3] [0] rfl rfl 0 2 rfl rfl rfl (lv_nil hl) rfl (Nat.le_of_ble_eq_true rfl) dL_isLaidRight_136 ?_
        refine lv_iload hx hb dL_isLaidRight_139 (lv_at hl 6 rfl) ?_
        refine lv_icmp_ne (tgt := 148) hx hb dL_isLaidRight_141 (by decide) (fun _ => ?_) (fun c_ => absurd c_ cL)
        refine lv_iconst (v := 0) hx hb dL_isLaidRight_148 (by decide) ?_
        refine lv_icmp_ne (tgt := 168) hx hb dL_isLaidRight_149 (by decide) (fun c_ => absurd (by decide) c_) (fun _ => ?_)
        refine lv_iload hx hb dL_isLaidRight_152 (lv_at hl 5 rfl) ?_
        refine lv_if_lt (tgt := 168) hx hb dL_isLaidRight_154 (by decide) (fun c_ => absurd c_ (by decide)) (fun _ => ?_)
        refine lv_iload hx hb dL_isLaidRight_157 (lv_at hl 5 rfl) ?_
        refine lv_bipush (v := 6) hx hb dL_isLaidRight_159 (by decide) ?_
        refine lv_icmp_ge (tgt := 168) hx hb dL_isLaidRight_161 (by decide) (fun c_ => absurd c_ (by decide)) (fun _ => ?_)
        refine lv_iconst (v := 1) hx hb dL_isLaidRight_164 (by decide) ?_
        refine lv_goto (tgt := 169) hx hb dL_isLaidRight_165 (by decide) ?_
        refine lv_istore (lv' := [(7, .int 1), (6, .int (pq_sum up (i + 1))), (5, .int (nI (fb_ct (zl_p up 4) (i + 1) + fb_ct (zl_p up 5) (i + 1)))), (4, .int (nI (fb_ct (zl_p up 3) (i + 1)))), (3, .int (nI (fb_ct (zl_p up 2) (i + 1)))), (2, .int (nI (fb_ct (zl_p up 0) (i + 1) + fb_ct (zl_p up 1) (i + 1)))), (9, .int 0), (8, .int (nI i)), (0, .ref a0), (1, .int x0)]) hx hb dL_isLaidRight_169 hl (by decide) rfl (fun ls hl => ?_)
        refine lv_iinc (v := nI (i + 1)) (lv' := [(8, .int (nI (i + 1))), (7, .int 1), (6, .int (pq_sum up (i + 1))), (5, .int (nI (fb_ct (zl_p up 4) (i + 1) + fb_ct (zl_p up 5) (i + 1)))), (4, .int (nI (fb_ct (zl_p up 3) (i + 1)))), (3, .int (nI (fb_ct (zl_p up 2) (i + 1)))), (2, .int (nI (fb_ct (zl_p up 0) (i + 1) + fb_ct (zl_p up 1) (i + 1)))), (9, .int 0), (0, .ref a0), (1, .int x0)]) hx hb dL_isLaidRight_171 hl (k := 7) rfl (nI_1 i) (by decide) rfl (fun ls hl => ?_)
        refine lv_goto (tgt := 19) hx hb dL_isLaidRight_174 (by decide) ?_
        exact ih (i + 1) (by omega) ls (lv_sub hl [0, 6, 5, 4, 3, 2, 1, 8, 9] rfl)
      · subst e
        have hpv : j_X2_placeOf vtr vled vh1 vt1 vh2 vt2 (nI i) = 1 := hp.trans uv
        have cL : ¬ j_X2_led vled = nI i := fun z => absurd (hL.mp z) (by decide)
        have e2 : nI (fb_ct (zl_p up 0) i + fb_ct (zl_p up 1) i) + 1 = nI (fb_ct (zl_p up 0) (i + 1) + fb_ct (zl_p up 1) (i + 1)) := by
          rw [nI_1]
          congr 1
          simp at b_0 b_1
          omega
        have e3 : nI (fb_ct (zl_p up 2) i) + 0 = nI (fb_ct (zl_p up 2) (i + 1)) := by
          rw [Int32.add_zero]
          congr 1
          simp at b_2
          omega
        have e4 : nI (fb_ct (zl_p up 3) i) + 0 = nI (fb_ct (zl_p up 3) (i + 1)) := by
          rw [Int32.add_zero]
          congr 1
          simp at b_3
          omega
        have e5 : nI (fb_ct (zl_p up 4) i + fb_ct (zl_p up 5) i) + 0 = nI (fb_ct (zl_p up 4) (i + 1) + fb_ct (zl_p up 5) (i + 1)) := by
          rw [Int32.add_zero]
          congr 1
          simp at b_4 b_5
          omega
        have e6 : pq_sum up i + 0 = pq_sum up (i + 1) := by
          rw [pq_sum, if_neg (by rw [uv]; decide)]
        refine lv_iload hx hb dL_isLaidRight_19 (lv_at hl 0 rfl) ?_
        refine lv_bipush (v := 42) hx hb dL_isLaidRight_21 (by decide) ?_
        refine lv_icmp_ge (tgt := 177) hx hb dL_isLaidRight_23 (by decide) (fun c_ => absurd c_ hge) (fun _ => ?_)
        refine lv_aload_n hx hb dL_isLaidRight_26 rfl (lv_at hl 7 rfl) ?_
        refine lv_iload hx hb dL_isLaidRight_27 (lv_at hl 0 rfl) ?_
        refine jr_callV (n := 1) (C := RX2) (As := [.int (nI i)]) (rest := []) S (c_X2_placeOf a0 aR aF aG cI vrow vdrawn vtr vled vmov vw1 vw2 veo veb vh1 vt1 vp1 vk1 vg1 vh2 vt2 vp2 vk2 vg2 (nI i) hci) gL_isLaidRight_X2_placeOf rfl (by decide +kernel) rfl ⟨⟨rfl, rfl⟩, ⟨Nat.le_of_ble_eq_true rfl, Nat.le_of_ble_eq_true rfl⟩, Nat.le_of_ble_eq_true rfl, Nat.le_of_ble_eq_true rfl⟩ hP hK hN [0, 1, 2, 3] [0] rfl rfl 0 2 rfl rfl rfl (lv_nil hl) rfl (Nat.le_of_ble_eq_true rfl) dL_isLaidRight_29 ?_
        rw [hpv]
        refine lv_istore (lv' := [(9, .int 1), (8, .int (nI i)), (2, .int (nI (fb_ct (zl_p up 0) i + fb_ct (zl_p up 1) i))), (3, .int (nI (fb_ct (zl_p up 2) i))), (4, .int (nI (fb_ct (zl_p up 3) i))), (5, .int (nI (fb_ct (zl_p up 4) i + fb_ct (zl_p up 5) i))), (6, .int (pq_sum up i)), (7, .int 1), (0, .ref a0), (1, .int x0)]) hx hb dL_isLaidRight_32 hl (by decide) rfl (fun ls hl => ?_)
        refine lv_iload_n hx hb dL_isLaidRight_34 rfl (lv_at hl 2 rfl) ?_
        refine lv_iload hx hb dL_isLaidRight_35 (lv_at hl 0 rfl) ?_
        refine lv_if_eq (tgt := 46) hx hb dL_isLaidRight_37 (by decide) (fun c_ => absurd c_ (by decide)) (fun _ => ?_)
        refine lv_iload hx hb dL_isLaidRight_40 (lv_at hl 0 rfl) ?_
        refine lv_iconst (v := 1) hx hb dL_isLaidRight_42 (by decide) ?_
        refine lv_icmp_ne (tgt := 50) hx hb dL_isLaidRight_43 (by decide) (fun c_ => absurd (by decide) c_) (fun _ => ?_)
        refine lv_iconst (v := 1) hx hb dL_isLaidRight_46 (by decide) ?_
        refine lv_goto (tgt := 51) hx hb dL_isLaidRight_47 (by decide) ?_
        refine lv_iadd hx hb dL_isLaidRight_51 ?_
        rw [e2]
        refine lv_istore_n (lv' := [(2, .int (nI (fb_ct (zl_p up 0) (i + 1) + fb_ct (zl_p up 1) (i + 1)))), (9, .int 1), (8, .int (nI i)), (3, .int (nI (fb_ct (zl_p up 2) i))), (4, .int (nI (fb_ct (zl_p up 3) i))), (5, .int (nI (fb_ct (zl_p up 4) i + fb_ct (zl_p up 5) i))), (6, .int (pq_sum up i)), (7, .int 1), (0, .ref a0), (1, .int x0)]) hx hb dL_isLaidRight_52 rfl hl (by decide) rfl (fun ls hl => ?_)
        refine lv_iload_n hx hb dL_isLaidRight_53 rfl (lv_at hl 3 rfl) ?_
        refine lv_iload hx hb dL_isLaidRight_54 (lv_at hl 1 rfl) ?_
        refine lv_iconst (v := 2) hx hb dL_isLaidRight_56 (by decide) ?_
        refine lv_icmp_ne (tgt := 64) hx hb dL_isLaidRight_57 (by decide) (fun _ => ?_) (fun c_ => absurd c_ (by decide))
        refine lv_iconst (v := 0) hx hb dL_isLaidRight_64 (by decide) ?_
        refine lv_iadd hx hb dL_isLaidRight_65 ?_
        rw [e3]
        refine lv_istore_n (lv' := [(3, .int (nI (fb_ct (zl_p up 2) (i + 1)))), (2, .int (nI (fb_ct (zl_p up 0) (i + 1) + fb_ct (zl_p up 1) (i + 1)))), (9, .int 1), (8, .int (nI i)), (4, .int (nI (fb_ct (zl_p up 3) i))), (5, .int (nI (fb_ct (zl_p up 4) i + fb_ct (zl_p up 5) i))), (6, .int (pq_sum up i)), (7, .int 1), (0, .ref a0), (1, .int x0)]) hx hb dL_isLaidRight_66 rfl hl (by decide) rfl (fun ls hl => ?_)
        refine lv_iload hx hb dL_isLaidRight_67 (lv_at hl 4 rfl) ?_
        refine lv_iload hx hb dL_isLaidRight_69 (lv_at hl 2 rfl) ?_
        refine lv_iconst (v := 3) hx hb dL_isLaidRight_71 (by decide) ?_
        refine lv_icmp_ne (tgt := 79) hx hb dL_isLaidRight_72 (by decide) (fun _ => ?_) (fun c_ => absurd c_ (by decide))
        refine lv_iconst (v := 0) hx hb dL_isLaidRight_79 (by decide) ?_
        refine lv_iadd hx hb dL_isLaidRight_80 ?_
        rw [e4]
        refine lv_istore (lv' := [(4, .int (nI (fb_ct (zl_p up 3) (i + 1)))), (3, .int (nI (fb_ct (zl_p up 2) (i + 1)))), (2, .int (nI (fb_ct (zl_p up 0) (i + 1) + fb_ct (zl_p up 1) (i + 1)))), (9, .int 1), (8, .int (nI i)), (5, .int (nI (fb_ct (zl_p up 4) i + fb_ct (zl_p up 5) i))), (6, .int (pq_sum up i)), (7, .int 1), (0, .ref a0), (1, .int x0)]) hx hb dL_isLaidRight_81 hl (by decide) rfl (fun ls hl => ?_)
        refine lv_iload hx hb dL_isLaidRight_83 (lv_at hl 5 rfl) ?_
        refine lv_iload hx hb dL_isLaidRight_85 (lv_at hl 3 rfl) ?_
        refine lv_iconst (v := 3) hx hb dL_isLaidRight_87 (by decide) ?_
        refine lv_icmp_le (tgt := 95) hx hb dL_isLaidRight_88 (by decide) (fun _ => ?_) (fun c_ => absurd (by decide) c_)
        refine lv_iconst (v := 0) hx hb dL_isLaidRight_95 (by decide) ?_
        refine lv_iadd hx hb dL_isLaidRight_96 ?_
        rw [e5]
        refine lv_istore (lv' := [(5, .int (nI (fb_ct (zl_p up 4) (i + 1) + fb_ct (zl_p up 5) (i + 1)))), (4, .int (nI (fb_ct (zl_p up 3) (i + 1)))), (3, .int (nI (fb_ct (zl_p up 2) (i + 1)))), (2, .int (nI (fb_ct (zl_p up 0) (i + 1) + fb_ct (zl_p up 1) (i + 1)))), (9, .int 1), (8, .int (nI i)), (6, .int (pq_sum up i)), (7, .int 1), (0, .ref a0), (1, .int x0)]) hx hb dL_isLaidRight_97 hl (by decide) rfl (fun ls hl => ?_)
        refine lv_iload hx hb dL_isLaidRight_99 (lv_at hl 6 rfl) ?_
        refine lv_iload hx hb dL_isLaidRight_101 (lv_at hl 4 rfl) ?_
        refine lv_iconst (v := 3) hx hb dL_isLaidRight_103 (by decide) ?_
        refine lv_icmp_le (tgt := 115) hx hb dL_isLaidRight_104 (by decide) (fun _ => ?_) (fun c_ => absurd (by decide) c_)
        refine lv_iconst (v := 0) hx hb dL_isLaidRight_115 (by decide) ?_
        refine lv_iadd hx hb dL_isLaidRight_116 ?_
        rw [e6]
        refine lv_istore (lv' := [(6, .int (pq_sum up (i + 1))), (5, .int (nI (fb_ct (zl_p up 4) (i + 1) + fb_ct (zl_p up 5) (i + 1)))), (4, .int (nI (fb_ct (zl_p up 3) (i + 1)))), (3, .int (nI (fb_ct (zl_p up 2) (i + 1)))), (2, .int (nI (fb_ct (zl_p up 0) (i + 1) + fb_ct (zl_p up 1) (i + 1)))), (9, .int 1), (8, .int (nI i)), (7, .int 1), (0, .ref a0), (1, .int x0)]) hx hb dL_isLaidRight_117 hl (by decide) rfl (fun ls hl => ?_)
        refine lv_iload hx hb dL_isLaidRight_119 (lv_at hl 7 rfl) ?_
        refine lv_if_eq (tgt := 168) hx hb dL_isLaidRight_121 (by decide) (fun c_ => absurd c_ (by decide)) (fun _ => ?_)
        refine lv_iload hx hb dL_isLaidRight_124 (lv_at hl 5 rfl) ?_
        refine lv_iconst (v := 3) hx hb dL_isLaidRight_126 (by decide) ?_
        refine lv_icmp_ne (tgt := 134) hx hb dL_isLaidRight_127 (by decide) (fun _ => ?_) (fun c_ => absurd c_ (by decide))
        refine lv_iconst (v := 0) hx hb dL_isLaidRight_134 (by decide) ?_
        refine lv_aload_n hx hb dL_isLaidRight_135 rfl (lv_at hl 8 rfl) ?_
        refine jr_callV (n := 0) (C := RX2) (As := []) (rest := [.int 0]) S (c_X2_led a0 aR aF aG cI vrow vdrawn vtr vled vmov vw1 vw2 veo veb vh1 vt1 vp1 vk1 vg1 vh2 vt2 vp2 vk2 vg2) gL_isLaidRight_X2_led rfl (by decide +kernel) rfl ⟨⟨rfl, rfl⟩, ⟨Nat.le_of_ble_eq_true rfl, Nat.le_of_ble_eq_true rfl⟩, Nat.le_of_ble_eq_true rfl, Nat.le_of_ble_eq_true rfl⟩ hP hK hN [0, 1, 2, 3] [0] rfl rfl 0 2 rfl rfl rfl (lv_nil hl) rfl (Nat.le_of_ble_eq_true rfl) dL_isLaidRight_136 ?_
        refine lv_iload hx hb dL_isLaidRight_139 (lv_at hl 6 rfl) ?_
        refine lv_icmp_ne (tgt := 148) hx hb dL_isLaidRight_141 (by decide) (fun _ => ?_) (fun c_ => absurd c_ cL)
        refine lv_iconst (v := 0) hx hb dL_isLaidRight_148 (by decide) ?_
        refine lv_icmp_ne (tgt := 168) hx hb dL_isLaidRight_149 (by decide) (fun c_ => absurd (by decide) c_) (fun _ => ?_)
        refine lv_iload hx hb dL_isLaidRight_152 (lv_at hl 5 rfl) ?_
        refine lv_if_lt (tgt := 168) hx hb dL_isLaidRight_154 (by decide) (fun c_ => absurd c_ (by decide)) (fun _ => ?_)
        refine lv_iload hx hb dL_isLaidRight_157 (lv_at hl 5 rfl) ?_
        refine lv_bipush (v := 6) hx hb dL_isLaidRight_159 (by decide) ?_
        refine lv_icmp_ge (tgt := 168) hx hb dL_isLaidRight_161 (by decide) (fun c_ => absurd c_ (by decide)) (fun _ => ?_)
        refine lv_iconst (v := 1) hx hb dL_isLaidRight_164 (by decide) ?_
        refine lv_goto (tgt := 169) hx hb dL_isLaidRight_165 (by decide) ?_
        refine lv_istore (lv' := [(7, .int 1), (6, .int (pq_sum up (i + 1))), (5, .int (nI (fb_ct (zl_p up 4) (i + 1) + fb_ct (zl_p up 5) (i + 1)))), (4, .int (nI (fb_ct (zl_p up 3) (i + 1)))), (3, .int (nI (fb_ct (zl_p up 2) (i + 1)))), (2, .int (nI (fb_ct (zl_p up 0) (i + 1) + fb_ct (zl_p up 1) (i + 1)))), (9, .int 1), (8, .int (nI i)), (0, .ref a0), (1, .int x0)]) hx hb dL_isLaidRight_169 hl (by decide) rfl (fun ls hl => ?_)
        refine lv_iinc (v := nI (i + 1)) (lv' := [(8, .int (nI (i + 1))), (7, .int 1), (6, .int (pq_sum up (i + 1))), (5, .int (nI (fb_ct (zl_p up 4) (i + 1) + fb_ct (zl_p up 5) (i + 1)))), (4, .int (nI (fb_ct (zl_p up 3) (i + 1)))), (3, .int (nI (fb_ct (zl_p up 2) (i + 1)))), (2, .int (nI (fb_ct (zl_p up 0) (i + 1) + fb_ct (zl_p up 1) (i + 1)))), (9, .int 1), (0, .ref a0), (1, .int x0)]) hx hb dL_isLaidRight_171 hl (k := 7) rfl (nI_1 i) (by decide) rfl (fun ls hl => ?_)
        refine lv_goto (tgt := 19) hx hb dL_isLaidRight_174 (by decide) ?_
        exact ih (i + 1) (by omega) ls (lv_sub hl [0, 6, 5, 4, 3, 2, 1, 8, 9] rfl)
      · subst e
        have hpv : j_X2_placeOf vtr vled vh1 vt1 vh2 vt2 (nI i) = 2 := hp.trans uv
        have cL : ¬ j_X2_led vled = nI i := fun z => absurd (hL.mp z) (by decide)
        have e2 : nI (fb_ct (zl_p up 0) i + fb_ct (zl_p up 1) i) + 0 = nI (fb_ct (zl_p up 0) (i + 1) + fb_ct (zl_p up 1) (i + 1)) := by
          rw [Int32.add_zero]
          congr 1
          simp at b_0 b_1
          omega
        have e3 : nI (fb_ct (zl_p up 2) i) + 1 = nI (fb_ct (zl_p up 2) (i + 1)) := by
          rw [nI_1]
          congr 1
          simp at b_2
          omega
        have e4 : nI (fb_ct (zl_p up 3) i) + 0 = nI (fb_ct (zl_p up 3) (i + 1)) := by
          rw [Int32.add_zero]
          congr 1
          simp at b_3
          omega
        have e5 : nI (fb_ct (zl_p up 4) i + fb_ct (zl_p up 5) i) + 0 = nI (fb_ct (zl_p up 4) (i + 1) + fb_ct (zl_p up 5) (i + 1)) := by
          rw [Int32.add_zero]
          congr 1
          simp at b_4 b_5
          omega
        have e6 : pq_sum up i + 0 = pq_sum up (i + 1) := by
          rw [pq_sum, if_neg (by rw [uv]; decide)]
        refine lv_iload hx hb dL_isLaidRight_19 (lv_at hl 0 rfl) ?_
        refine lv_bipush (v := 42) hx hb dL_isLaidRight_21 (by decide) ?_
        refine lv_icmp_ge (tgt := 177) hx hb dL_isLaidRight_23 (by decide) (fun c_ => absurd c_ hge) (fun _ => ?_)
        refine lv_aload_n hx hb dL_isLaidRight_26 rfl (lv_at hl 7 rfl) ?_
        refine lv_iload hx hb dL_isLaidRight_27 (lv_at hl 0 rfl) ?_
        refine jr_callV (n := 1) (C := RX2) (As := [.int (nI i)]) (rest := []) S (c_X2_placeOf a0 aR aF aG cI vrow vdrawn vtr vled vmov vw1 vw2 veo veb vh1 vt1 vp1 vk1 vg1 vh2 vt2 vp2 vk2 vg2 (nI i) hci) gL_isLaidRight_X2_placeOf rfl (by decide +kernel) rfl ⟨⟨rfl, rfl⟩, ⟨Nat.le_of_ble_eq_true rfl, Nat.le_of_ble_eq_true rfl⟩, Nat.le_of_ble_eq_true rfl, Nat.le_of_ble_eq_true rfl⟩ hP hK hN [0, 1, 2, 3] [0] rfl rfl 0 2 rfl rfl rfl (lv_nil hl) rfl (Nat.le_of_ble_eq_true rfl) dL_isLaidRight_29 ?_
        rw [hpv]
        refine lv_istore (lv' := [(9, .int 2), (8, .int (nI i)), (2, .int (nI (fb_ct (zl_p up 0) i + fb_ct (zl_p up 1) i))), (3, .int (nI (fb_ct (zl_p up 2) i))), (4, .int (nI (fb_ct (zl_p up 3) i))), (5, .int (nI (fb_ct (zl_p up 4) i + fb_ct (zl_p up 5) i))), (6, .int (pq_sum up i)), (7, .int 1), (0, .ref a0), (1, .int x0)]) hx hb dL_isLaidRight_32 hl (by decide) rfl (fun ls hl => ?_)
        refine lv_iload_n hx hb dL_isLaidRight_34 rfl (lv_at hl 2 rfl) ?_
        refine lv_iload hx hb dL_isLaidRight_35 (lv_at hl 0 rfl) ?_
        refine lv_if_eq (tgt := 46) hx hb dL_isLaidRight_37 (by decide) (fun c_ => absurd c_ (by decide)) (fun _ => ?_)
        refine lv_iload hx hb dL_isLaidRight_40 (lv_at hl 0 rfl) ?_
        refine lv_iconst (v := 1) hx hb dL_isLaidRight_42 (by decide) ?_
        refine lv_icmp_ne (tgt := 50) hx hb dL_isLaidRight_43 (by decide) (fun _ => ?_) (fun c_ => absurd c_ (by decide))
        refine lv_iconst (v := 0) hx hb dL_isLaidRight_50 (by decide) ?_
        refine lv_iadd hx hb dL_isLaidRight_51 ?_
        rw [e2]
        refine lv_istore_n (lv' := [(2, .int (nI (fb_ct (zl_p up 0) (i + 1) + fb_ct (zl_p up 1) (i + 1)))), (9, .int 2), (8, .int (nI i)), (3, .int (nI (fb_ct (zl_p up 2) i))), (4, .int (nI (fb_ct (zl_p up 3) i))), (5, .int (nI (fb_ct (zl_p up 4) i + fb_ct (zl_p up 5) i))), (6, .int (pq_sum up i)), (7, .int 1), (0, .ref a0), (1, .int x0)]) hx hb dL_isLaidRight_52 rfl hl (by decide) rfl (fun ls hl => ?_)
        refine lv_iload_n hx hb dL_isLaidRight_53 rfl (lv_at hl 3 rfl) ?_
        refine lv_iload hx hb dL_isLaidRight_54 (lv_at hl 1 rfl) ?_
        refine lv_iconst (v := 2) hx hb dL_isLaidRight_56 (by decide) ?_
        refine lv_icmp_ne (tgt := 64) hx hb dL_isLaidRight_57 (by decide) (fun c_ => absurd (by decide) c_) (fun _ => ?_)
        refine lv_iconst (v := 1) hx hb dL_isLaidRight_60 (by decide) ?_
        refine lv_goto (tgt := 65) hx hb dL_isLaidRight_61 (by decide) ?_
        refine lv_iadd hx hb dL_isLaidRight_65 ?_
        rw [e3]
        refine lv_istore_n (lv' := [(3, .int (nI (fb_ct (zl_p up 2) (i + 1)))), (2, .int (nI (fb_ct (zl_p up 0) (i + 1) + fb_ct (zl_p up 1) (i + 1)))), (9, .int 2), (8, .int (nI i)), (4, .int (nI (fb_ct (zl_p up 3) i))), (5, .int (nI (fb_ct (zl_p up 4) i + fb_ct (zl_p up 5) i))), (6, .int (pq_sum up i)), (7, .int 1), (0, .ref a0), (1, .int x0)]) hx hb dL_isLaidRight_66 rfl hl (by decide) rfl (fun ls hl => ?_)
        refine lv_iload hx hb dL_isLaidRight_67 (lv_at hl 4 rfl) ?_
        refine lv_iload hx hb dL_isLaidRight_69 (lv_at hl 2 rfl) ?_
        refine lv_iconst (v := 3) hx hb dL_isLaidRight_71 (by decide) ?_
        refine lv_icmp_ne (tgt := 79) hx hb dL_isLaidRight_72 (by decide) (fun _ => ?_) (fun c_ => absurd c_ (by decide))
        refine lv_iconst (v := 0) hx hb dL_isLaidRight_79 (by decide) ?_
        refine lv_iadd hx hb dL_isLaidRight_80 ?_
        rw [e4]
        refine lv_istore (lv' := [(4, .int (nI (fb_ct (zl_p up 3) (i + 1)))), (3, .int (nI (fb_ct (zl_p up 2) (i + 1)))), (2, .int (nI (fb_ct (zl_p up 0) (i + 1) + fb_ct (zl_p up 1) (i + 1)))), (9, .int 2), (8, .int (nI i)), (5, .int (nI (fb_ct (zl_p up 4) i + fb_ct (zl_p up 5) i))), (6, .int (pq_sum up i)), (7, .int 1), (0, .ref a0), (1, .int x0)]) hx hb dL_isLaidRight_81 hl (by decide) rfl (fun ls hl => ?_)
        refine lv_iload hx hb dL_isLaidRight_83 (lv_at hl 5 rfl) ?_
        refine lv_iload hx hb dL_isLaidRight_85 (lv_at hl 3 rfl) ?_
        refine lv_iconst (v := 3) hx hb dL_isLaidRight_87 (by decide) ?_
        refine lv_icmp_le (tgt := 95) hx hb dL_isLaidRight_88 (by decide) (fun _ => ?_) (fun c_ => absurd (by decide) c_)
        refine lv_iconst (v := 0) hx hb dL_isLaidRight_95 (by decide) ?_
        refine lv_iadd hx hb dL_isLaidRight_96 ?_
        rw [e5]
        refine lv_istore (lv' := [(5, .int (nI (fb_ct (zl_p up 4) (i + 1) + fb_ct (zl_p up 5) (i + 1)))), (4, .int (nI (fb_ct (zl_p up 3) (i + 1)))), (3, .int (nI (fb_ct (zl_p up 2) (i + 1)))), (2, .int (nI (fb_ct (zl_p up 0) (i + 1) + fb_ct (zl_p up 1) (i + 1)))), (9, .int 2), (8, .int (nI i)), (6, .int (pq_sum up i)), (7, .int 1), (0, .ref a0), (1, .int x0)]) hx hb dL_isLaidRight_97 hl (by decide) rfl (fun ls hl => ?_)
        refine lv_iload hx hb dL_isLaidRight_99 (lv_at hl 6 rfl) ?_
        refine lv_iload hx hb dL_isLaidRight_101 (lv_at hl 4 rfl) ?_
        refine lv_iconst (v := 3) hx hb dL_isLaidRight_103 (by decide) ?_
        refine lv_icmp_le (tgt := 115) hx hb dL_isLaidRight_104 (by decide) (fun _ => ?_) (fun c_ => absurd (by decide) c_)
        refine lv_iconst (v := 0) hx hb dL_isLaidRight_115 (by decide) ?_
        refine lv_iadd hx hb dL_isLaidRight_116 ?_
        rw [e6]
        refine lv_istore (lv' := [(6, .int (pq_sum up (i + 1))), (5, .int (nI (fb_ct (zl_p up 4) (i + 1) + fb_ct (zl_p up 5) (i + 1)))), (4, .int (nI (fb_ct (zl_p up 3) (i + 1)))), (3, .int (nI (fb_ct (zl_p up 2) (i + 1)))), (2, .int (nI (fb_ct (zl_p up 0) (i + 1) + fb_ct (zl_p up 1) (i + 1)))), (9, .int 2), (8, .int (nI i)), (7, .int 1), (0, .ref a0), (1, .int x0)]) hx hb dL_isLaidRight_117 hl (by decide) rfl (fun ls hl => ?_)
        refine lv_iload hx hb dL_isLaidRight_119 (lv_at hl 7 rfl) ?_
        refine lv_if_eq (tgt := 168) hx hb dL_isLaidRight_121 (by decide) (fun c_ => absurd c_ (by decide)) (fun _ => ?_)
        refine lv_iload hx hb dL_isLaidRight_124 (lv_at hl 5 rfl) ?_
        refine lv_iconst (v := 3) hx hb dL_isLaidRight_126 (by decide) ?_
        refine lv_icmp_ne (tgt := 134) hx hb dL_isLaidRight_127 (by decide) (fun _ => ?_) (fun c_ => absurd c_ (by decide))
        refine lv_iconst (v := 0) hx hb dL_isLaidRight_134 (by decide) ?_
        refine lv_aload_n hx hb dL_isLaidRight_135 rfl (lv_at hl 8 rfl) ?_
        refine jr_callV (n := 0) (C := RX2) (As := []) (rest := [.int 0]) S (c_X2_led a0 aR aF aG cI vrow vdrawn vtr vled vmov vw1 vw2 veo veb vh1 vt1 vp1 vk1 vg1 vh2 vt2 vp2 vk2 vg2) gL_isLaidRight_X2_led rfl (by decide +kernel) rfl ⟨⟨rfl, rfl⟩, ⟨Nat.le_of_ble_eq_true rfl, Nat.le_of_ble_eq_true rfl⟩, Nat.le_of_ble_eq_true rfl, Nat.le_of_ble_eq_true rfl⟩ hP hK hN [0, 1, 2, 3] [0] rfl rfl 0 2 rfl rfl rfl (lv_nil hl) rfl (Nat.le_of_ble_eq_true rfl) dL_isLaidRight_136 ?_
        refine lv_iload hx hb dL_isLaidRight_139 (lv_at hl 6 rfl) ?_
        refine lv_icmp_ne (tgt := 148) hx hb dL_isLaidRight_141 (by decide) (fun _ => ?_) (fun c_ => absurd c_ cL)
        refine lv_iconst (v := 0) hx hb dL_isLaidRight_148 (by decide) ?_
        refine lv_icmp_ne (tgt := 168) hx hb dL_isLaidRight_149 (by decide) (fun c_ => absurd (by decide) c_) (fun _ => ?_)
        refine lv_iload hx hb dL_isLaidRight_152 (lv_at hl 5 rfl) ?_
        refine lv_if_lt (tgt := 168) hx hb dL_isLaidRight_154 (by decide) (fun c_ => absurd c_ (by decide)) (fun _ => ?_)
        refine lv_iload hx hb dL_isLaidRight_157 (lv_at hl 5 rfl) ?_
        refine lv_bipush (v := 6) hx hb dL_isLaidRight_159 (by decide) ?_
        refine lv_icmp_ge (tgt := 168) hx hb dL_isLaidRight_161 (by decide) (fun c_ => absurd c_ (by decide)) (fun _ => ?_)
        refine lv_iconst (v := 1) hx hb dL_isLaidRight_164 (by decide) ?_
        refine lv_goto (tgt := 169) hx hb dL_isLaidRight_165 (by decide) ?_
        refine lv_istore (lv' := [(7, .int 1), (6, .int (pq_sum up (i + 1))), (5, .int (nI (fb_ct (zl_p up 4) (i + 1) + fb_ct (zl_p up 5) (i + 1)))), (4, .int (nI (fb_ct (zl_p up 3) (i + 1)))), (3, .int (nI (fb_ct (zl_p up 2) (i + 1)))), (2, .int (nI (fb_ct (zl_p up 0) (i + 1) + fb_ct (zl_p up 1) (i + 1)))), (9, .int 2), (8, .int (nI i)), (0, .ref a0), (1, .int x0)]) hx hb dL_isLaidRight_169 hl (by decide) rfl (fun ls hl => ?_)
        refine lv_iinc (v := nI (i + 1)) (lv' := [(8, .int (nI (i + 1))), (7, .int 1), (6, .int (pq_sum up (i + 1))), (5, .int (nI (fb_ct (zl_p up 4) (i + 1) + fb_ct (zl_p up 5) (i + 1)))), (4, .int (nI (fb_ct (zl_p up 3) (i + 1)))), (3, .int (nI (fb_ct (zl_p up 2) (i + 1)))), (2, .int (nI (fb_ct (zl_p up 0) (i + 1) + fb_ct (zl_p up 1) (i + 1)))), (9, .int 2), (0, .ref a0), (1, .int x0)]) hx hb dL_isLaidRight_171 hl (k := 7) rfl (nI_1 i) (by decide) rfl (fun ls hl => ?_)
        refine lv_goto (tgt := 19) hx hb dL_isLaidRight_174 (by decide) ?_
        exact ih (i + 1) (by omega) ls (lv_sub hl [0, 6, 5, 4, 3, 2, 1, 8, 9] rfl)
      · subst e
        have hpv : j_X2_placeOf vtr vled vh1 vt1 vh2 vt2 (nI i) = 3 := hp.trans uv
        have cL : j_X2_led vled = nI i := hL.mpr rfl
        have e2 : nI (fb_ct (zl_p up 0) i + fb_ct (zl_p up 1) i) + 0 = nI (fb_ct (zl_p up 0) (i + 1) + fb_ct (zl_p up 1) (i + 1)) := by
          rw [Int32.add_zero]
          congr 1
          simp at b_0 b_1
          omega
        have e3 : nI (fb_ct (zl_p up 2) i) + 0 = nI (fb_ct (zl_p up 2) (i + 1)) := by
          rw [Int32.add_zero]
          congr 1
          simp at b_2
          omega
        have e4 : nI (fb_ct (zl_p up 3) i) + 1 = nI (fb_ct (zl_p up 3) (i + 1)) := by
          rw [nI_1]
          congr 1
          simp at b_3
          omega
        have e5 : nI (fb_ct (zl_p up 4) i + fb_ct (zl_p up 5) i) + 0 = nI (fb_ct (zl_p up 4) (i + 1) + fb_ct (zl_p up 5) (i + 1)) := by
          rw [Int32.add_zero]
          congr 1
          simp at b_4 b_5
          omega
        have e6 : pq_sum up i + 0 = pq_sum up (i + 1) := by
          rw [pq_sum, if_neg (by rw [uv]; decide)]
        refine lv_iload hx hb dL_isLaidRight_19 (lv_at hl 0 rfl) ?_
        refine lv_bipush (v := 42) hx hb dL_isLaidRight_21 (by decide) ?_
        refine lv_icmp_ge (tgt := 177) hx hb dL_isLaidRight_23 (by decide) (fun c_ => absurd c_ hge) (fun _ => ?_)
        refine lv_aload_n hx hb dL_isLaidRight_26 rfl (lv_at hl 7 rfl) ?_
        refine lv_iload hx hb dL_isLaidRight_27 (lv_at hl 0 rfl) ?_
        refine jr_callV (n := 1) (C := RX2) (As := [.int (nI i)]) (rest := []) S (c_X2_placeOf a0 aR aF aG cI vrow vdrawn vtr vled vmov vw1 vw2 veo veb vh1 vt1 vp1 vk1 vg1 vh2 vt2 vp2 vk2 vg2 (nI i) hci) gL_isLaidRight_X2_placeOf rfl (by decide +kernel) rfl ⟨⟨rfl, rfl⟩, ⟨Nat.le_of_ble_eq_true rfl, Nat.le_of_ble_eq_true rfl⟩, Nat.le_of_ble_eq_true rfl, Nat.le_of_ble_eq_true rfl⟩ hP hK hN [0, 1, 2, 3] [0] rfl rfl 0 2 rfl rfl rfl (lv_nil hl) rfl (Nat.le_of_ble_eq_true rfl) dL_isLaidRight_29 ?_
        rw [hpv]
        refine lv_istore (lv' := [(9, .int 3), (8, .int (nI i)), (2, .int (nI (fb_ct (zl_p up 0) i + fb_ct (zl_p up 1) i))), (3, .int (nI (fb_ct (zl_p up 2) i))), (4, .int (nI (fb_ct (zl_p up 3) i))), (5, .int (nI (fb_ct (zl_p up 4) i + fb_ct (zl_p up 5) i))), (6, .int (pq_sum up i)), (7, .int 1), (0, .ref a0), (1, .int x0)]) hx hb dL_isLaidRight_32 hl (by decide) rfl (fun ls hl => ?_)
        refine lv_iload_n hx hb dL_isLaidRight_34 rfl (lv_at hl 2 rfl) ?_
        refine lv_iload hx hb dL_isLaidRight_35 (lv_at hl 0 rfl) ?_
        refine lv_if_eq (tgt := 46) hx hb dL_isLaidRight_37 (by decide) (fun c_ => absurd c_ (by decide)) (fun _ => ?_)
        refine lv_iload hx hb dL_isLaidRight_40 (lv_at hl 0 rfl) ?_
        refine lv_iconst (v := 1) hx hb dL_isLaidRight_42 (by decide) ?_
        refine lv_icmp_ne (tgt := 50) hx hb dL_isLaidRight_43 (by decide) (fun _ => ?_) (fun c_ => absurd c_ (by decide))
        refine lv_iconst (v := 0) hx hb dL_isLaidRight_50 (by decide) ?_
        refine lv_iadd hx hb dL_isLaidRight_51 ?_
        rw [e2]
        refine lv_istore_n (lv' := [(2, .int (nI (fb_ct (zl_p up 0) (i + 1) + fb_ct (zl_p up 1) (i + 1)))), (9, .int 3), (8, .int (nI i)), (3, .int (nI (fb_ct (zl_p up 2) i))), (4, .int (nI (fb_ct (zl_p up 3) i))), (5, .int (nI (fb_ct (zl_p up 4) i + fb_ct (zl_p up 5) i))), (6, .int (pq_sum up i)), (7, .int 1), (0, .ref a0), (1, .int x0)]) hx hb dL_isLaidRight_52 rfl hl (by decide) rfl (fun ls hl => ?_)
        refine lv_iload_n hx hb dL_isLaidRight_53 rfl (lv_at hl 3 rfl) ?_
        refine lv_iload hx hb dL_isLaidRight_54 (lv_at hl 1 rfl) ?_
        refine lv_iconst (v := 2) hx hb dL_isLaidRight_56 (by decide) ?_
        refine lv_icmp_ne (tgt := 64) hx hb dL_isLaidRight_57 (by decide) (fun _ => ?_) (fun c_ => absurd c_ (by decide))
        refine lv_iconst (v := 0) hx hb dL_isLaidRight_64 (by decide) ?_
        refine lv_iadd hx hb dL_isLaidRight_65 ?_
        rw [e3]
        refine lv_istore_n (lv' := [(3, .int (nI (fb_ct (zl_p up 2) (i + 1)))), (2, .int (nI (fb_ct (zl_p up 0) (i + 1) + fb_ct (zl_p up 1) (i + 1)))), (9, .int 3), (8, .int (nI i)), (4, .int (nI (fb_ct (zl_p up 3) i))), (5, .int (nI (fb_ct (zl_p up 4) i + fb_ct (zl_p up 5) i))), (6, .int (pq_sum up i)), (7, .int 1), (0, .ref a0), (1, .int x0)]) hx hb dL_isLaidRight_66 rfl hl (by decide) rfl (fun ls hl => ?_)
        refine lv_iload hx hb dL_isLaidRight_67 (lv_at hl 4 rfl) ?_
        refine lv_iload hx hb dL_isLaidRight_69 (lv_at hl 2 rfl) ?_
        refine lv_iconst (v := 3) hx hb dL_isLaidRight_71 (by decide) ?_
        refine lv_icmp_ne (tgt := 79) hx hb dL_isLaidRight_72 (by decide) (fun c_ => absurd (by decide) c_) (fun _ => ?_)
        refine lv_iconst (v := 1) hx hb dL_isLaidRight_75 (by decide) ?_
        refine lv_goto (tgt := 80) hx hb dL_isLaidRight_76 (by decide) ?_
        refine lv_iadd hx hb dL_isLaidRight_80 ?_
        rw [e4]
        refine lv_istore (lv' := [(4, .int (nI (fb_ct (zl_p up 3) (i + 1)))), (3, .int (nI (fb_ct (zl_p up 2) (i + 1)))), (2, .int (nI (fb_ct (zl_p up 0) (i + 1) + fb_ct (zl_p up 1) (i + 1)))), (9, .int 3), (8, .int (nI i)), (5, .int (nI (fb_ct (zl_p up 4) i + fb_ct (zl_p up 5) i))), (6, .int (pq_sum up i)), (7, .int 1), (0, .ref a0), (1, .int x0)]) hx hb dL_isLaidRight_81 hl (by decide) rfl (fun ls hl => ?_)
        refine lv_iload hx hb dL_isLaidRight_83 (lv_at hl 5 rfl) ?_
        refine lv_iload hx hb dL_isLaidRight_85 (lv_at hl 3 rfl) ?_
        refine lv_iconst (v := 3) hx hb dL_isLaidRight_87 (by decide) ?_
        refine lv_icmp_le (tgt := 95) hx hb dL_isLaidRight_88 (by decide) (fun _ => ?_) (fun c_ => absurd (by decide) c_)
        refine lv_iconst (v := 0) hx hb dL_isLaidRight_95 (by decide) ?_
        refine lv_iadd hx hb dL_isLaidRight_96 ?_
        rw [e5]
        refine lv_istore (lv' := [(5, .int (nI (fb_ct (zl_p up 4) (i + 1) + fb_ct (zl_p up 5) (i + 1)))), (4, .int (nI (fb_ct (zl_p up 3) (i + 1)))), (3, .int (nI (fb_ct (zl_p up 2) (i + 1)))), (2, .int (nI (fb_ct (zl_p up 0) (i + 1) + fb_ct (zl_p up 1) (i + 1)))), (9, .int 3), (8, .int (nI i)), (6, .int (pq_sum up i)), (7, .int 1), (0, .ref a0), (1, .int x0)]) hx hb dL_isLaidRight_97 hl (by decide) rfl (fun ls hl => ?_)
        refine lv_iload hx hb dL_isLaidRight_99 (lv_at hl 6 rfl) ?_
        refine lv_iload hx hb dL_isLaidRight_101 (lv_at hl 4 rfl) ?_
        refine lv_iconst (v := 3) hx hb dL_isLaidRight_103 (by decide) ?_
        refine lv_icmp_le (tgt := 115) hx hb dL_isLaidRight_104 (by decide) (fun _ => ?_) (fun c_ => absurd (by decide) c_)
        refine lv_iconst (v := 0) hx hb dL_isLaidRight_115 (by decide) ?_
        refine lv_iadd hx hb dL_isLaidRight_116 ?_
        rw [e6]
        refine lv_istore (lv' := [(6, .int (pq_sum up (i + 1))), (5, .int (nI (fb_ct (zl_p up 4) (i + 1) + fb_ct (zl_p up 5) (i + 1)))), (4, .int (nI (fb_ct (zl_p up 3) (i + 1)))), (3, .int (nI (fb_ct (zl_p up 2) (i + 1)))), (2, .int (nI (fb_ct (zl_p up 0) (i + 1) + fb_ct (zl_p up 1) (i + 1)))), (9, .int 3), (8, .int (nI i)), (7, .int 1), (0, .ref a0), (1, .int x0)]) hx hb dL_isLaidRight_117 hl (by decide) rfl (fun ls hl => ?_)
        refine lv_iload hx hb dL_isLaidRight_119 (lv_at hl 7 rfl) ?_
        refine lv_if_eq (tgt := 168) hx hb dL_isLaidRight_121 (by decide) (fun c_ => absurd c_ (by decide)) (fun _ => ?_)
        refine lv_iload hx hb dL_isLaidRight_124 (lv_at hl 5 rfl) ?_
        refine lv_iconst (v := 3) hx hb dL_isLaidRight_126 (by decide) ?_
        refine lv_icmp_ne (tgt := 134) hx hb dL_isLaidRight_127 (by decide) (fun c_ => absurd (by decide) c_) (fun _ => ?_)
        refine lv_iconst (v := 1) hx hb dL_isLaidRight_130 (by decide) ?_
        refine lv_goto (tgt := 135) hx hb dL_isLaidRight_131 (by decide) ?_
        refine lv_aload_n hx hb dL_isLaidRight_135 rfl (lv_at hl 8 rfl) ?_
        refine jr_callV (n := 0) (C := RX2) (As := []) (rest := [.int 1]) S (c_X2_led a0 aR aF aG cI vrow vdrawn vtr vled vmov vw1 vw2 veo veb vh1 vt1 vp1 vk1 vg1 vh2 vt2 vp2 vk2 vg2) gL_isLaidRight_X2_led rfl (by decide +kernel) rfl ⟨⟨rfl, rfl⟩, ⟨Nat.le_of_ble_eq_true rfl, Nat.le_of_ble_eq_true rfl⟩, Nat.le_of_ble_eq_true rfl, Nat.le_of_ble_eq_true rfl⟩ hP hK hN [0, 1, 2, 3] [0] rfl rfl 0 2 rfl rfl rfl (lv_nil hl) rfl (Nat.le_of_ble_eq_true rfl) dL_isLaidRight_136 ?_
        refine lv_iload hx hb dL_isLaidRight_139 (lv_at hl 6 rfl) ?_
        refine lv_icmp_ne (tgt := 148) hx hb dL_isLaidRight_141 (by decide) (fun c_ => absurd cL c_) (fun _ => ?_)
        refine lv_iconst (v := 1) hx hb dL_isLaidRight_144 (by decide) ?_
        refine lv_goto (tgt := 149) hx hb dL_isLaidRight_145 (by decide) ?_
        refine lv_icmp_ne (tgt := 168) hx hb dL_isLaidRight_149 (by decide) (fun c_ => absurd (by decide) c_) (fun _ => ?_)
        refine lv_iload hx hb dL_isLaidRight_152 (lv_at hl 5 rfl) ?_
        refine lv_if_lt (tgt := 168) hx hb dL_isLaidRight_154 (by decide) (fun c_ => absurd c_ (by decide)) (fun _ => ?_)
        refine lv_iload hx hb dL_isLaidRight_157 (lv_at hl 5 rfl) ?_
        refine lv_bipush (v := 6) hx hb dL_isLaidRight_159 (by decide) ?_
        refine lv_icmp_ge (tgt := 168) hx hb dL_isLaidRight_161 (by decide) (fun c_ => absurd c_ (by decide)) (fun _ => ?_)
        refine lv_iconst (v := 1) hx hb dL_isLaidRight_164 (by decide) ?_
        refine lv_goto (tgt := 169) hx hb dL_isLaidRight_165 (by decide) ?_
        refine lv_istore (lv' := [(7, .int 1), (6, .int (pq_sum up (i + 1))), (5, .int (nI (fb_ct (zl_p up 4) (i + 1) + fb_ct (zl_p up 5) (i + 1)))), (4, .int (nI (fb_ct (zl_p up 3) (i + 1)))), (3, .int (nI (fb_ct (zl_p up 2) (i + 1)))), (2, .int (nI (fb_ct (zl_p up 0) (i + 1) + fb_ct (zl_p up 1) (i + 1)))), (9, .int 3), (8, .int (nI i)), (0, .ref a0), (1, .int x0)]) hx hb dL_isLaidRight_169 hl (by decide) rfl (fun ls hl => ?_)
        refine lv_iinc (v := nI (i + 1)) (lv' := [(8, .int (nI (i + 1))), (7, .int 1), (6, .int (pq_sum up (i + 1))), (5, .int (nI (fb_ct (zl_p up 4) (i + 1) + fb_ct (zl_p up 5) (i + 1)))), (4, .int (nI (fb_ct (zl_p up 3) (i + 1)))), (3, .int (nI (fb_ct (zl_p up 2) (i + 1)))), (2, .int (nI (fb_ct (zl_p up 0) (i + 1) + fb_ct (zl_p up 1) (i + 1)))), (9, .int 3), (0, .ref a0), (1, .int x0)]) hx hb dL_isLaidRight_171 hl (k := 7) rfl (nI_1 i) (by decide) rfl (fun ls hl => ?_)
        refine lv_goto (tgt := 19) hx hb dL_isLaidRight_174 (by decide) ?_
        exact ih (i + 1) (by omega) ls (lv_sub hl [0, 6, 5, 4, 3, 2, 1, 8, 9] rfl)
      · subst e
        have hpv : j_X2_placeOf vtr vled vh1 vt1 vh2 vt2 (nI i) = 4 := hp.trans uv
        have cL : ¬ j_X2_led vled = nI i := fun z => absurd (hL.mp z) (by decide)
        have e2 : nI (fb_ct (zl_p up 0) i + fb_ct (zl_p up 1) i) + 0 = nI (fb_ct (zl_p up 0) (i + 1) + fb_ct (zl_p up 1) (i + 1)) := by
          rw [Int32.add_zero]
          congr 1
          simp at b_0 b_1
          omega
        have e3 : nI (fb_ct (zl_p up 2) i) + 0 = nI (fb_ct (zl_p up 2) (i + 1)) := by
          rw [Int32.add_zero]
          congr 1
          simp at b_2
          omega
        have e4 : nI (fb_ct (zl_p up 3) i) + 0 = nI (fb_ct (zl_p up 3) (i + 1)) := by
          rw [Int32.add_zero]
          congr 1
          simp at b_3
          omega
        have e5 : nI (fb_ct (zl_p up 4) i + fb_ct (zl_p up 5) i) + 1 = nI (fb_ct (zl_p up 4) (i + 1) + fb_ct (zl_p up 5) (i + 1)) := by
          rw [nI_1]
          congr 1
          simp at b_4 b_5
          omega
        have e6 : pq_sum up i + (j_L_worth (nI i)) = pq_sum up (i + 1) := by
          rw [pq_sum, if_pos ((show pq_T (up i) by rw [uv]; exact (pq_Tn (by decide)).mpr (by decide))), pq_lw i hi]
        refine lv_iload hx hb dL_isLaidRight_19 (lv_at hl 0 rfl) ?_
        refine lv_bipush (v := 42) hx hb dL_isLaidRight_21 (by decide) ?_
        refine lv_icmp_ge (tgt := 177) hx hb dL_isLaidRight_23 (by decide) (fun c_ => absurd c_ hge) (fun _ => ?_)
        refine lv_aload_n hx hb dL_isLaidRight_26 rfl (lv_at hl 7 rfl) ?_
        refine lv_iload hx hb dL_isLaidRight_27 (lv_at hl 0 rfl) ?_
        refine jr_callV (n := 1) (C := RX2) (As := [.int (nI i)]) (rest := []) S (c_X2_placeOf a0 aR aF aG cI vrow vdrawn vtr vled vmov vw1 vw2 veo veb vh1 vt1 vp1 vk1 vg1 vh2 vt2 vp2 vk2 vg2 (nI i) hci) gL_isLaidRight_X2_placeOf rfl (by decide +kernel) rfl ⟨⟨rfl, rfl⟩, ⟨Nat.le_of_ble_eq_true rfl, Nat.le_of_ble_eq_true rfl⟩, Nat.le_of_ble_eq_true rfl, Nat.le_of_ble_eq_true rfl⟩ hP hK hN [0, 1, 2, 3] [0] rfl rfl 0 2 rfl rfl rfl (lv_nil hl) rfl (Nat.le_of_ble_eq_true rfl) dL_isLaidRight_29 ?_
        rw [hpv]
        refine lv_istore (lv' := [(9, .int 4), (8, .int (nI i)), (2, .int (nI (fb_ct (zl_p up 0) i + fb_ct (zl_p up 1) i))), (3, .int (nI (fb_ct (zl_p up 2) i))), (4, .int (nI (fb_ct (zl_p up 3) i))), (5, .int (nI (fb_ct (zl_p up 4) i + fb_ct (zl_p up 5) i))), (6, .int (pq_sum up i)), (7, .int 1), (0, .ref a0), (1, .int x0)]) hx hb dL_isLaidRight_32 hl (by decide) rfl (fun ls hl => ?_)
        refine lv_iload_n hx hb dL_isLaidRight_34 rfl (lv_at hl 2 rfl) ?_
        refine lv_iload hx hb dL_isLaidRight_35 (lv_at hl 0 rfl) ?_
        refine lv_if_eq (tgt := 46) hx hb dL_isLaidRight_37 (by decide) (fun c_ => absurd c_ (by decide)) (fun _ => ?_)
        refine lv_iload hx hb dL_isLaidRight_40 (lv_at hl 0 rfl) ?_
        refine lv_iconst (v := 1) hx hb dL_isLaidRight_42 (by decide) ?_
        refine lv_icmp_ne (tgt := 50) hx hb dL_isLaidRight_43 (by decide) (fun _ => ?_) (fun c_ => absurd c_ (by decide))
        refine lv_iconst (v := 0) hx hb dL_isLaidRight_50 (by decide) ?_
        refine lv_iadd hx hb dL_isLaidRight_51 ?_
        rw [e2]
        refine lv_istore_n (lv' := [(2, .int (nI (fb_ct (zl_p up 0) (i + 1) + fb_ct (zl_p up 1) (i + 1)))), (9, .int 4), (8, .int (nI i)), (3, .int (nI (fb_ct (zl_p up 2) i))), (4, .int (nI (fb_ct (zl_p up 3) i))), (5, .int (nI (fb_ct (zl_p up 4) i + fb_ct (zl_p up 5) i))), (6, .int (pq_sum up i)), (7, .int 1), (0, .ref a0), (1, .int x0)]) hx hb dL_isLaidRight_52 rfl hl (by decide) rfl (fun ls hl => ?_)
        refine lv_iload_n hx hb dL_isLaidRight_53 rfl (lv_at hl 3 rfl) ?_
        refine lv_iload hx hb dL_isLaidRight_54 (lv_at hl 1 rfl) ?_
        refine lv_iconst (v := 2) hx hb dL_isLaidRight_56 (by decide) ?_
        refine lv_icmp_ne (tgt := 64) hx hb dL_isLaidRight_57 (by decide) (fun _ => ?_) (fun c_ => absurd c_ (by decide))
        refine lv_iconst (v := 0) hx hb dL_isLaidRight_64 (by decide) ?_
        refine lv_iadd hx hb dL_isLaidRight_65 ?_
        rw [e3]
        refine lv_istore_n (lv' := [(3, .int (nI (fb_ct (zl_p up 2) (i + 1)))), (2, .int (nI (fb_ct (zl_p up 0) (i + 1) + fb_ct (zl_p up 1) (i + 1)))), (9, .int 4), (8, .int (nI i)), (4, .int (nI (fb_ct (zl_p up 3) i))), (5, .int (nI (fb_ct (zl_p up 4) i + fb_ct (zl_p up 5) i))), (6, .int (pq_sum up i)), (7, .int 1), (0, .ref a0), (1, .int x0)]) hx hb dL_isLaidRight_66 rfl hl (by decide) rfl (fun ls hl => ?_)
        refine lv_iload hx hb dL_isLaidRight_67 (lv_at hl 4 rfl) ?_
        refine lv_iload hx hb dL_isLaidRight_69 (lv_at hl 2 rfl) ?_
        refine lv_iconst (v := 3) hx hb dL_isLaidRight_71 (by decide) ?_
        refine lv_icmp_ne (tgt := 79) hx hb dL_isLaidRight_72 (by decide) (fun _ => ?_) (fun c_ => absurd c_ (by decide))
        refine lv_iconst (v := 0) hx hb dL_isLaidRight_79 (by decide) ?_
        refine lv_iadd hx hb dL_isLaidRight_80 ?_
        rw [e4]
        refine lv_istore (lv' := [(4, .int (nI (fb_ct (zl_p up 3) (i + 1)))), (3, .int (nI (fb_ct (zl_p up 2) (i + 1)))), (2, .int (nI (fb_ct (zl_p up 0) (i + 1) + fb_ct (zl_p up 1) (i + 1)))), (9, .int 4), (8, .int (nI i)), (5, .int (nI (fb_ct (zl_p up 4) i + fb_ct (zl_p up 5) i))), (6, .int (pq_sum up i)), (7, .int 1), (0, .ref a0), (1, .int x0)]) hx hb dL_isLaidRight_81 hl (by decide) rfl (fun ls hl => ?_)
        refine lv_iload hx hb dL_isLaidRight_83 (lv_at hl 5 rfl) ?_
        refine lv_iload hx hb dL_isLaidRight_85 (lv_at hl 3 rfl) ?_
        refine lv_iconst (v := 3) hx hb dL_isLaidRight_87 (by decide) ?_
        refine lv_icmp_le (tgt := 95) hx hb dL_isLaidRight_88 (by decide) (fun c_ => absurd c_ (by decide)) (fun _ => ?_)
        refine lv_iconst (v := 1) hx hb dL_isLaidRight_91 (by decide) ?_
        refine lv_goto (tgt := 96) hx hb dL_isLaidRight_92 (by decide) ?_
        refine lv_iadd hx hb dL_isLaidRight_96 ?_
        rw [e5]
        refine lv_istore (lv' := [(5, .int (nI (fb_ct (zl_p up 4) (i + 1) + fb_ct (zl_p up 5) (i + 1)))), (4, .int (nI (fb_ct (zl_p up 3) (i + 1)))), (3, .int (nI (fb_ct (zl_p up 2) (i + 1)))), (2, .int (nI (fb_ct (zl_p up 0) (i + 1) + fb_ct (zl_p up 1) (i + 1)))), (9, .int 4), (8, .int (nI i)), (6, .int (pq_sum up i)), (7, .int 1), (0, .ref a0), (1, .int x0)]) hx hb dL_isLaidRight_97 hl (by decide) rfl (fun ls hl => ?_)
        refine lv_iload hx hb dL_isLaidRight_99 (lv_at hl 6 rfl) ?_
        refine lv_iload hx hb dL_isLaidRight_101 (lv_at hl 4 rfl) ?_
        refine lv_iconst (v := 3) hx hb dL_isLaidRight_103 (by decide) ?_
        refine lv_icmp_le (tgt := 115) hx hb dL_isLaidRight_104 (by decide) (fun c_ => absurd c_ (by decide)) (fun _ => ?_)
        refine lv_iload hx hb dL_isLaidRight_107 (lv_at hl 5 rfl) ?_
        refine jr_callS (n := 1) (As := [.int (nI i)]) (rest := [.int (pq_sum up i)]) S (c_L_worth (nI i)) gL_isLaidRight_L_worth rfl (by decide +kernel) rfl ⟨⟨rfl, rfl⟩, ⟨Nat.le_of_ble_eq_true rfl, Nat.le_of_ble_eq_true rfl⟩, Nat.le_of_ble_eq_true rfl, Nat.le_of_ble_eq_true rfl⟩ hP hK hN [] [] rfl rfl (lv_nil hl) rfl (Nat.le_of_ble_eq_true rfl) dL_isLaidRight_109 ?_
        refine lv_goto (tgt := 116) hx hb dL_isLaidRight_112 (by decide) ?_
        refine lv_iadd hx hb dL_isLaidRight_116 ?_
        rw [e6]
        refine lv_istore (lv' := [(6, .int (pq_sum up (i + 1))), (5, .int (nI (fb_ct (zl_p up 4) (i + 1) + fb_ct (zl_p up 5) (i + 1)))), (4, .int (nI (fb_ct (zl_p up 3) (i + 1)))), (3, .int (nI (fb_ct (zl_p up 2) (i + 1)))), (2, .int (nI (fb_ct (zl_p up 0) (i + 1) + fb_ct (zl_p up 1) (i + 1)))), (9, .int 4), (8, .int (nI i)), (7, .int 1), (0, .ref a0), (1, .int x0)]) hx hb dL_isLaidRight_117 hl (by decide) rfl (fun ls hl => ?_)
        refine lv_iload hx hb dL_isLaidRight_119 (lv_at hl 7 rfl) ?_
        refine lv_if_eq (tgt := 168) hx hb dL_isLaidRight_121 (by decide) (fun c_ => absurd c_ (by decide)) (fun _ => ?_)
        refine lv_iload hx hb dL_isLaidRight_124 (lv_at hl 5 rfl) ?_
        refine lv_iconst (v := 3) hx hb dL_isLaidRight_126 (by decide) ?_
        refine lv_icmp_ne (tgt := 134) hx hb dL_isLaidRight_127 (by decide) (fun _ => ?_) (fun c_ => absurd c_ (by decide))
        refine lv_iconst (v := 0) hx hb dL_isLaidRight_134 (by decide) ?_
        refine lv_aload_n hx hb dL_isLaidRight_135 rfl (lv_at hl 8 rfl) ?_
        refine jr_callV (n := 0) (C := RX2) (As := []) (rest := [.int 0]) S (c_X2_led a0 aR aF aG cI vrow vdrawn vtr vled vmov vw1 vw2 veo veb vh1 vt1 vp1 vk1 vg1 vh2 vt2 vp2 vk2 vg2) gL_isLaidRight_X2_led rfl (by decide +kernel) rfl ⟨⟨rfl, rfl⟩, ⟨Nat.le_of_ble_eq_true rfl, Nat.le_of_ble_eq_true rfl⟩, Nat.le_of_ble_eq_true rfl, Nat.le_of_ble_eq_true rfl⟩ hP hK hN [0, 1, 2, 3] [0] rfl rfl 0 2 rfl rfl rfl (lv_nil hl) rfl (Nat.le_of_ble_eq_true rfl) dL_isLaidRight_136 ?_
        refine lv_iload hx hb dL_isLaidRight_139 (lv_at hl 6 rfl) ?_
        refine lv_icmp_ne (tgt := 148) hx hb dL_isLaidRight_141 (by decide) (fun _ => ?_) (fun c_ => absurd c_ cL)
        refine lv_iconst (v := 0) hx hb dL_isLaidRight_148 (by decide) ?_
        refine lv_icmp_ne (tgt := 168) hx hb dL_isLaidRight_149 (by decide) (fun c_ => absurd (by decide) c_) (fun _ => ?_)
        refine lv_iload hx hb dL_isLaidRight_152 (lv_at hl 5 rfl) ?_
        refine lv_if_lt (tgt := 168) hx hb dL_isLaidRight_154 (by decide) (fun c_ => absurd c_ (by decide)) (fun _ => ?_)
        refine lv_iload hx hb dL_isLaidRight_157 (lv_at hl 5 rfl) ?_
        refine lv_bipush (v := 6) hx hb dL_isLaidRight_159 (by decide) ?_
        refine lv_icmp_ge (tgt := 168) hx hb dL_isLaidRight_161 (by decide) (fun c_ => absurd c_ (by decide)) (fun _ => ?_)
        refine lv_iconst (v := 1) hx hb dL_isLaidRight_164 (by decide) ?_
        refine lv_goto (tgt := 169) hx hb dL_isLaidRight_165 (by decide) ?_
        refine lv_istore (lv' := [(7, .int 1), (6, .int (pq_sum up (i + 1))), (5, .int (nI (fb_ct (zl_p up 4) (i + 1) + fb_ct (zl_p up 5) (i + 1)))), (4, .int (nI (fb_ct (zl_p up 3) (i + 1)))), (3, .int (nI (fb_ct (zl_p up 2) (i + 1)))), (2, .int (nI (fb_ct (zl_p up 0) (i + 1) + fb_ct (zl_p up 1) (i + 1)))), (9, .int 4), (8, .int (nI i)), (0, .ref a0), (1, .int x0)]) hx hb dL_isLaidRight_169 hl (by decide) rfl (fun ls hl => ?_)
        refine lv_iinc (v := nI (i + 1)) (lv' := [(8, .int (nI (i + 1))), (7, .int 1), (6, .int (pq_sum up (i + 1))), (5, .int (nI (fb_ct (zl_p up 4) (i + 1) + fb_ct (zl_p up 5) (i + 1)))), (4, .int (nI (fb_ct (zl_p up 3) (i + 1)))), (3, .int (nI (fb_ct (zl_p up 2) (i + 1)))), (2, .int (nI (fb_ct (zl_p up 0) (i + 1) + fb_ct (zl_p up 1) (i + 1)))), (9, .int 4), (0, .ref a0), (1, .int x0)]) hx hb dL_isLaidRight_171 hl (k := 7) rfl (nI_1 i) (by decide) rfl (fun ls hl => ?_)
        refine lv_goto (tgt := 19) hx hb dL_isLaidRight_174 (by decide) ?_
        exact ih (i + 1) (by omega) ls (lv_sub hl [0, 6, 5, 4, 3, 2, 1, 8, 9] rfl)
      · subst e
        have hpv : j_X2_placeOf vtr vled vh1 vt1 vh2 vt2 (nI i) = 5 := hp.trans uv
        have cL : ¬ j_X2_led vled = nI i := fun z => absurd (hL.mp z) (by decide)
        have e2 : nI (fb_ct (zl_p up 0) i + fb_ct (zl_p up 1) i) + 0 = nI (fb_ct (zl_p up 0) (i + 1) + fb_ct (zl_p up 1) (i + 1)) := by
          rw [Int32.add_zero]
          congr 1
          simp at b_0 b_1
          omega
        have e3 : nI (fb_ct (zl_p up 2) i) + 0 = nI (fb_ct (zl_p up 2) (i + 1)) := by
          rw [Int32.add_zero]
          congr 1
          simp at b_2
          omega
        have e4 : nI (fb_ct (zl_p up 3) i) + 0 = nI (fb_ct (zl_p up 3) (i + 1)) := by
          rw [Int32.add_zero]
          congr 1
          simp at b_3
          omega
        have e5 : nI (fb_ct (zl_p up 4) i + fb_ct (zl_p up 5) i) + 1 = nI (fb_ct (zl_p up 4) (i + 1) + fb_ct (zl_p up 5) (i + 1)) := by
          rw [nI_1]
          congr 1
          simp at b_4 b_5
          omega
        have e6 : pq_sum up i + (j_L_worth (nI i)) = pq_sum up (i + 1) := by
          rw [pq_sum, if_pos ((show pq_T (up i) by rw [uv]; exact (pq_Tn (by decide)).mpr (by decide))), pq_lw i hi]
        refine lv_iload hx hb dL_isLaidRight_19 (lv_at hl 0 rfl) ?_
        refine lv_bipush (v := 42) hx hb dL_isLaidRight_21 (by decide) ?_
        refine lv_icmp_ge (tgt := 177) hx hb dL_isLaidRight_23 (by decide) (fun c_ => absurd c_ hge) (fun _ => ?_)
        refine lv_aload_n hx hb dL_isLaidRight_26 rfl (lv_at hl 7 rfl) ?_
        refine lv_iload hx hb dL_isLaidRight_27 (lv_at hl 0 rfl) ?_
        refine jr_callV (n := 1) (C := RX2) (As := [.int (nI i)]) (rest := []) S (c_X2_placeOf a0 aR aF aG cI vrow vdrawn vtr vled vmov vw1 vw2 veo veb vh1 vt1 vp1 vk1 vg1 vh2 vt2 vp2 vk2 vg2 (nI i) hci) gL_isLaidRight_X2_placeOf rfl (by decide +kernel) rfl ⟨⟨rfl, rfl⟩, ⟨Nat.le_of_ble_eq_true rfl, Nat.le_of_ble_eq_true rfl⟩, Nat.le_of_ble_eq_true rfl, Nat.le_of_ble_eq_true rfl⟩ hP hK hN [0, 1, 2, 3] [0] rfl rfl 0 2 rfl rfl rfl (lv_nil hl) rfl (Nat.le_of_ble_eq_true rfl) dL_isLaidRight_29 ?_
        rw [hpv]
        refine lv_istore (lv' := [(9, .int 5), (8, .int (nI i)), (2, .int (nI (fb_ct (zl_p up 0) i + fb_ct (zl_p up 1) i))), (3, .int (nI (fb_ct (zl_p up 2) i))), (4, .int (nI (fb_ct (zl_p up 3) i))), (5, .int (nI (fb_ct (zl_p up 4) i + fb_ct (zl_p up 5) i))), (6, .int (pq_sum up i)), (7, .int 1), (0, .ref a0), (1, .int x0)]) hx hb dL_isLaidRight_32 hl (by decide) rfl (fun ls hl => ?_)
        refine lv_iload_n hx hb dL_isLaidRight_34 rfl (lv_at hl 2 rfl) ?_
        refine lv_iload hx hb dL_isLaidRight_35 (lv_at hl 0 rfl) ?_
        refine lv_if_eq (tgt := 46) hx hb dL_isLaidRight_37 (by decide) (fun c_ => absurd c_ (by decide)) (fun _ => ?_)
        refine lv_iload hx hb dL_isLaidRight_40 (lv_at hl 0 rfl) ?_
        refine lv_iconst (v := 1) hx hb dL_isLaidRight_42 (by decide) ?_
        refine lv_icmp_ne (tgt := 50) hx hb dL_isLaidRight_43 (by decide) (fun _ => ?_) (fun c_ => absurd c_ (by decide))
        refine lv_iconst (v := 0) hx hb dL_isLaidRight_50 (by decide) ?_
        refine lv_iadd hx hb dL_isLaidRight_51 ?_
        rw [e2]
        refine lv_istore_n (lv' := [(2, .int (nI (fb_ct (zl_p up 0) (i + 1) + fb_ct (zl_p up 1) (i + 1)))), (9, .int 5), (8, .int (nI i)), (3, .int (nI (fb_ct (zl_p up 2) i))), (4, .int (nI (fb_ct (zl_p up 3) i))), (5, .int (nI (fb_ct (zl_p up 4) i + fb_ct (zl_p up 5) i))), (6, .int (pq_sum up i)), (7, .int 1), (0, .ref a0), (1, .int x0)]) hx hb dL_isLaidRight_52 rfl hl (by decide) rfl (fun ls hl => ?_)
        refine lv_iload_n hx hb dL_isLaidRight_53 rfl (lv_at hl 3 rfl) ?_
        refine lv_iload hx hb dL_isLaidRight_54 (lv_at hl 1 rfl) ?_
        refine lv_iconst (v := 2) hx hb dL_isLaidRight_56 (by decide) ?_
        refine lv_icmp_ne (tgt := 64) hx hb dL_isLaidRight_57 (by decide) (fun _ => ?_) (fun c_ => absurd c_ (by decide))
        refine lv_iconst (v := 0) hx hb dL_isLaidRight_64 (by decide) ?_
        refine lv_iadd hx hb dL_isLaidRight_65 ?_
        rw [e3]
        refine lv_istore_n (lv' := [(3, .int (nI (fb_ct (zl_p up 2) (i + 1)))), (2, .int (nI (fb_ct (zl_p up 0) (i + 1) + fb_ct (zl_p up 1) (i + 1)))), (9, .int 5), (8, .int (nI i)), (4, .int (nI (fb_ct (zl_p up 3) i))), (5, .int (nI (fb_ct (zl_p up 4) i + fb_ct (zl_p up 5) i))), (6, .int (pq_sum up i)), (7, .int 1), (0, .ref a0), (1, .int x0)]) hx hb dL_isLaidRight_66 rfl hl (by decide) rfl (fun ls hl => ?_)
        refine lv_iload hx hb dL_isLaidRight_67 (lv_at hl 4 rfl) ?_
        refine lv_iload hx hb dL_isLaidRight_69 (lv_at hl 2 rfl) ?_
        refine lv_iconst (v := 3) hx hb dL_isLaidRight_71 (by decide) ?_
        refine lv_icmp_ne (tgt := 79) hx hb dL_isLaidRight_72 (by decide) (fun _ => ?_) (fun c_ => absurd c_ (by decide))
        refine lv_iconst (v := 0) hx hb dL_isLaidRight_79 (by decide) ?_
        refine lv_iadd hx hb dL_isLaidRight_80 ?_
        rw [e4]
        refine lv_istore (lv' := [(4, .int (nI (fb_ct (zl_p up 3) (i + 1)))), (3, .int (nI (fb_ct (zl_p up 2) (i + 1)))), (2, .int (nI (fb_ct (zl_p up 0) (i + 1) + fb_ct (zl_p up 1) (i + 1)))), (9, .int 5), (8, .int (nI i)), (5, .int (nI (fb_ct (zl_p up 4) i + fb_ct (zl_p up 5) i))), (6, .int (pq_sum up i)), (7, .int 1), (0, .ref a0), (1, .int x0)]) hx hb dL_isLaidRight_81 hl (by decide) rfl (fun ls hl => ?_)
        refine lv_iload hx hb dL_isLaidRight_83 (lv_at hl 5 rfl) ?_
        refine lv_iload hx hb dL_isLaidRight_85 (lv_at hl 3 rfl) ?_
        refine lv_iconst (v := 3) hx hb dL_isLaidRight_87 (by decide) ?_
        refine lv_icmp_le (tgt := 95) hx hb dL_isLaidRight_88 (by decide) (fun c_ => absurd c_ (by decide)) (fun _ => ?_)
        refine lv_iconst (v := 1) hx hb dL_isLaidRight_91 (by decide) ?_
        refine lv_goto (tgt := 96) hx hb dL_isLaidRight_92 (by decide) ?_
        refine lv_iadd hx hb dL_isLaidRight_96 ?_
        rw [e5]
        refine lv_istore (lv' := [(5, .int (nI (fb_ct (zl_p up 4) (i + 1) + fb_ct (zl_p up 5) (i + 1)))), (4, .int (nI (fb_ct (zl_p up 3) (i + 1)))), (3, .int (nI (fb_ct (zl_p up 2) (i + 1)))), (2, .int (nI (fb_ct (zl_p up 0) (i + 1) + fb_ct (zl_p up 1) (i + 1)))), (9, .int 5), (8, .int (nI i)), (6, .int (pq_sum up i)), (7, .int 1), (0, .ref a0), (1, .int x0)]) hx hb dL_isLaidRight_97 hl (by decide) rfl (fun ls hl => ?_)
        refine lv_iload hx hb dL_isLaidRight_99 (lv_at hl 6 rfl) ?_
        refine lv_iload hx hb dL_isLaidRight_101 (lv_at hl 4 rfl) ?_
        refine lv_iconst (v := 3) hx hb dL_isLaidRight_103 (by decide) ?_
        refine lv_icmp_le (tgt := 115) hx hb dL_isLaidRight_104 (by decide) (fun c_ => absurd c_ (by decide)) (fun _ => ?_)
        refine lv_iload hx hb dL_isLaidRight_107 (lv_at hl 5 rfl) ?_
        refine jr_callS (n := 1) (As := [.int (nI i)]) (rest := [.int (pq_sum up i)]) S (c_L_worth (nI i)) gL_isLaidRight_L_worth rfl (by decide +kernel) rfl ⟨⟨rfl, rfl⟩, ⟨Nat.le_of_ble_eq_true rfl, Nat.le_of_ble_eq_true rfl⟩, Nat.le_of_ble_eq_true rfl, Nat.le_of_ble_eq_true rfl⟩ hP hK hN [] [] rfl rfl (lv_nil hl) rfl (Nat.le_of_ble_eq_true rfl) dL_isLaidRight_109 ?_
        refine lv_goto (tgt := 116) hx hb dL_isLaidRight_112 (by decide) ?_
        refine lv_iadd hx hb dL_isLaidRight_116 ?_
        rw [e6]
        refine lv_istore (lv' := [(6, .int (pq_sum up (i + 1))), (5, .int (nI (fb_ct (zl_p up 4) (i + 1) + fb_ct (zl_p up 5) (i + 1)))), (4, .int (nI (fb_ct (zl_p up 3) (i + 1)))), (3, .int (nI (fb_ct (zl_p up 2) (i + 1)))), (2, .int (nI (fb_ct (zl_p up 0) (i + 1) + fb_ct (zl_p up 1) (i + 1)))), (9, .int 5), (8, .int (nI i)), (7, .int 1), (0, .ref a0), (1, .int x0)]) hx hb dL_isLaidRight_117 hl (by decide) rfl (fun ls hl => ?_)
        refine lv_iload hx hb dL_isLaidRight_119 (lv_at hl 7 rfl) ?_
        refine lv_if_eq (tgt := 168) hx hb dL_isLaidRight_121 (by decide) (fun c_ => absurd c_ (by decide)) (fun _ => ?_)
        refine lv_iload hx hb dL_isLaidRight_124 (lv_at hl 5 rfl) ?_
        refine lv_iconst (v := 3) hx hb dL_isLaidRight_126 (by decide) ?_
        refine lv_icmp_ne (tgt := 134) hx hb dL_isLaidRight_127 (by decide) (fun _ => ?_) (fun c_ => absurd c_ (by decide))
        refine lv_iconst (v := 0) hx hb dL_isLaidRight_134 (by decide) ?_
        refine lv_aload_n hx hb dL_isLaidRight_135 rfl (lv_at hl 8 rfl) ?_
        refine jr_callV (n := 0) (C := RX2) (As := []) (rest := [.int 0]) S (c_X2_led a0 aR aF aG cI vrow vdrawn vtr vled vmov vw1 vw2 veo veb vh1 vt1 vp1 vk1 vg1 vh2 vt2 vp2 vk2 vg2) gL_isLaidRight_X2_led rfl (by decide +kernel) rfl ⟨⟨rfl, rfl⟩, ⟨Nat.le_of_ble_eq_true rfl, Nat.le_of_ble_eq_true rfl⟩, Nat.le_of_ble_eq_true rfl, Nat.le_of_ble_eq_true rfl⟩ hP hK hN [0, 1, 2, 3] [0] rfl rfl 0 2 rfl rfl rfl (lv_nil hl) rfl (Nat.le_of_ble_eq_true rfl) dL_isLaidRight_136 ?_
        refine lv_iload hx hb dL_isLaidRight_139 (lv_at hl 6 rfl) ?_
        refine lv_icmp_ne (tgt := 148) hx hb dL_isLaidRight_141 (by decide) (fun _ => ?_) (fun c_ => absurd c_ cL)
        refine lv_iconst (v := 0) hx hb dL_isLaidRight_148 (by decide) ?_
        refine lv_icmp_ne (tgt := 168) hx hb dL_isLaidRight_149 (by decide) (fun c_ => absurd (by decide) c_) (fun _ => ?_)
        refine lv_iload hx hb dL_isLaidRight_152 (lv_at hl 5 rfl) ?_
        refine lv_if_lt (tgt := 168) hx hb dL_isLaidRight_154 (by decide) (fun c_ => absurd c_ (by decide)) (fun _ => ?_)
        refine lv_iload hx hb dL_isLaidRight_157 (lv_at hl 5 rfl) ?_
        refine lv_bipush (v := 6) hx hb dL_isLaidRight_159 (by decide) ?_
        refine lv_icmp_ge (tgt := 168) hx hb dL_isLaidRight_161 (by decide) (fun c_ => absurd c_ (by decide)) (fun _ => ?_)
        refine lv_iconst (v := 1) hx hb dL_isLaidRight_164 (by decide) ?_
        refine lv_goto (tgt := 169) hx hb dL_isLaidRight_165 (by decide) ?_
        refine lv_istore (lv' := [(7, .int 1), (6, .int (pq_sum up (i + 1))), (5, .int (nI (fb_ct (zl_p up 4) (i + 1) + fb_ct (zl_p up 5) (i + 1)))), (4, .int (nI (fb_ct (zl_p up 3) (i + 1)))), (3, .int (nI (fb_ct (zl_p up 2) (i + 1)))), (2, .int (nI (fb_ct (zl_p up 0) (i + 1) + fb_ct (zl_p up 1) (i + 1)))), (9, .int 5), (8, .int (nI i)), (0, .ref a0), (1, .int x0)]) hx hb dL_isLaidRight_169 hl (by decide) rfl (fun ls hl => ?_)
        refine lv_iinc (v := nI (i + 1)) (lv' := [(8, .int (nI (i + 1))), (7, .int 1), (6, .int (pq_sum up (i + 1))), (5, .int (nI (fb_ct (zl_p up 4) (i + 1) + fb_ct (zl_p up 5) (i + 1)))), (4, .int (nI (fb_ct (zl_p up 3) (i + 1)))), (3, .int (nI (fb_ct (zl_p up 2) (i + 1)))), (2, .int (nI (fb_ct (zl_p up 0) (i + 1) + fb_ct (zl_p up 1) (i + 1)))), (9, .int 5), (0, .ref a0), (1, .int x0)]) hx hb dL_isLaidRight_171 hl (k := 7) rfl (nI_1 i) (by decide) rfl (fun ls hl => ?_)
        refine lv_goto (tgt := 19) hx hb dL_isLaidRight_174 (by decide) ?_
        exact ih (i + 1) (by omega) ls (lv_sub hl [0, 6, 5, 4, 3, 2, 1, 8, 9] rfl)
  refine lv_iconst (v := 0) hx hb dL_isLaidRight_0 (by decide) ?_
  refine lv_istore_n (lv' := [(2, .int 0), (0, .ref a0), (1, .int x0)]) hx hb dL_isLaidRight_1 rfl hl (by decide) rfl (fun ls hl => ?_)
  refine lv_iconst (v := 0) hx hb dL_isLaidRight_2 (by decide) ?_
  refine lv_istore_n (lv' := [(3, .int 0), (2, .int 0), (0, .ref a0), (1, .int x0)]) hx hb dL_isLaidRight_3 rfl hl (by decide) rfl (fun ls hl => ?_)
  refine lv_iconst (v := 0) hx hb dL_isLaidRight_4 (by decide) ?_
  refine lv_istore (lv' := [(4, .int 0), (3, .int 0), (2, .int 0), (0, .ref a0), (1, .int x0)]) hx hb dL_isLaidRight_5 hl (by decide) rfl (fun ls hl => ?_)
  refine lv_iconst (v := 0) hx hb dL_isLaidRight_7 (by decide) ?_
  refine lv_istore (lv' := [(5, .int 0), (4, .int 0), (3, .int 0), (2, .int 0), (0, .ref a0), (1, .int x0)]) hx hb dL_isLaidRight_8 hl (by decide) rfl (fun ls hl => ?_)
  refine lv_iconst (v := 0) hx hb dL_isLaidRight_10 (by decide) ?_
  refine lv_istore (lv' := [(6, .int 0), (5, .int 0), (4, .int 0), (3, .int 0), (2, .int 0), (0, .ref a0), (1, .int x0)]) hx hb dL_isLaidRight_11 hl (by decide) rfl (fun ls hl => ?_)
  refine lv_iconst (v := 1) hx hb dL_isLaidRight_13 (by decide) ?_
  refine lv_istore (lv' := [(7, .int 1), (6, .int 0), (5, .int 0), (4, .int 0), (3, .int 0), (2, .int 0), (0, .ref a0), (1, .int x0)]) hx hb dL_isLaidRight_14 hl (by decide) rfl (fun ls hl => ?_)
  refine lv_iconst (v := 0) hx hb dL_isLaidRight_16 (by decide) ?_
  refine lv_istore (lv' := [(8, .int 0), (7, .int 1), (6, .int 0), (5, .int 0), (4, .int 0), (3, .int 0), (2, .int 0), (0, .ref a0), (1, .int x0)]) hx hb dL_isLaidRight_17 hl (by decide) rfl (fun ls hl => ?_)
  exact lp 42 0 rfl ls (lv_sub hl [0, 6, 5, 4, 3, 2, 1, 7, 8] rfl)
