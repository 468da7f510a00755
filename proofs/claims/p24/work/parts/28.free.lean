/-! P24: isFree (laid by wip/p24/law.py) -/
abbrev rL_isFree : Room := { frames := 4, cells := 0, slots := 0, locals := 95 }
set_option maxRecDepth 100000 in
set_option maxHeartbeats 8000000 in
theorem c_L_isFree {l : Launch} {D : va_G} (a0 : Nat) (aR : Nat) (aF : Nat) (aG : Nat) (cI : ClassId) (vrow : Nat → Int32) (vdrawn : Int32) (vtr : Int32) (vled : Int32) (vmov : Int32) (vw1 : Int32) (vw2 : Int32) (veo : Option Nat) (veb : Int32) (vh1 : Int64) (vt1 : Int64) (vp1 : Int32) (vk1 : Int32) (vg1 : Int32) (vh2 : Int64) (vt2 : Int64) (vp2 : Int32) (vk2 : Int32) (vg2 : Int32) {sp : Int32} {up : Nat → Int32} {E a b : Nat} (hV : pq_V vdrawn vtr vled vmov vh1 vt1 vp1 vk1 vh2 vt2 vp2 vk2 sp up E) (hab : a + b = 1) (hm : vmov = nI a) : jR l yL_isFree wsL_isFree rL_isFree D [.ref a0] (jC a0 aR aF aG cI vrow vdrawn vtr vled vmov vw1 vw2 veo veb vh1 vt1 vp1 vk1 vg1 vh2 vt2 vp2 vk2 vg2) [(cI, .int)] (.int 1) := by
  obtain ⟨hpl, lo, ⟨g1, g2⟩, htr, ⟨n06, n16⟩, ⟨hE, hdr, hn2⟩, _, _, hmv⟩ := hV
  have ha : a < 2 := by omega
  have hT : j_X2_turn vmov = nI a := hm
  have hAa : ¬ j_X2_isArchivist (nI a) = 0 := by
    have : ∀ a, a < 2 → ¬ j_X2_isArchivist (nI a) = 0 := by decide
    exact this a ha
  have eA : j_X2_cards vh1 vh2 (nI a) = nI (zl_nn up a) := pq_ca ha g1 g2
  have hna : zl_nn up a ≤ 6 := by
    have : a = 0 ∨ a = 1 := by omega
    rcases this with e | e
    · subst e; exact n06
    · subst e; exact n16
  have hn1 : 1 ≤ zl_nn up a := by
    rcases hmv with ⟨m1, _⟩ | ⟨a', b', _, m1, _, h1, _⟩
    · exact absurd (hm.symm.trans m1) (zs_nm1 a (by omega))
    · have : a' = a := (nI_eq (by omega) (by omega)).mp (m1.symm.trans hm)
      rw [← this]; exact h1
  have hpile : j_X2_pile vdrawn = nI (30 - 2 * E) := by
    rw [hdr]
    show nI 42 - nI (12 + 2 * E) = _
    rw [pk_sub (by omega)]
    congr 1
    omega
  have cat : ∀ c, c < 42 → zl_p up a c = true → (fun j => (j_X2_cardAt vh1 vh2 (nI a) (nI j)).toNatClampNeg) (fb_ct (zl_p up a) c) = c := fun c hc h => by
    show (j_X2_cardAt vh1 vh2 (nI a) (nI (fb_ct (zl_p up a) c))).toNatClampNeg = c
    rw [pq_at ha g1 g2 hc (of_decide_eq_true h), nI_clamp (by omega)]
  have hAL : fb_ct (fun j => decide (j_X2_reasonAgainst vdrawn vtr vled (nI a) vh1 vh2 (nI (j_X2_cardAt vh1 vh2 (nI a) (nI j)).toNatClampNeg) = 0)) (zl_nn up a) = pq_AL vdrawn vtr vled vh1 vh2 up a := pq_over (q := fun c => decide (j_X2_reasonAgainst vdrawn vtr vled (nI a) vh1 vh2 (nI c) = 0)) cat 42 (Nat.le_refl _)
  have hML : fb_ct (fun j => decide (40 ≤ (j_X2_cardAt vh1 vh2 (nI a) (nI j)).toNatClampNeg)) (zl_nn up a) = pq_ML up a := pq_over (q := fun c => decide (40 ≤ c)) cat 42 (Nat.le_refl _)
  have cch : nI (pq_AL vdrawn vtr vled vh1 vh2 up a) = j_X2_choices vdrawn vtr vled vmov vh1 vh2 := by rw [hm, pq_choices ha g1 g2]
  have cle := pq_AL_le vdrawn vtr vled vh1 vh2 up a
  have cpos := pq_some (vdrawn := vdrawn) (vtr := vtr) ha g1 g2 lo hE hdr htr hn1
  have cal : ¬ nI (pq_AL vdrawn vtr vled vh1 vh2 up a) ≤ 0 := nI_nle cpos (by omega)
  refine jR_of (cc := cL_isFree) (maxL := 7) (ret := some .boolean) (by decide) rfl (Nat.le_of_ble_eq_true rfl) ?_
  intro p e s m below meth c ls S hr hlocks hP hK hN hl
  obtain ⟨hx, hb, hml, hown, hts⟩ := id S
  have hl : lv_has ls 7 [(0, .ref a0)] := hl

  have K : ∀ (ls : Array Slot), lv_has ls 7 [(2, .int (nI (pq_AL vdrawn vtr vled vh1 vh2 up a))), (3, .int (nI (pq_ML up a))), (1, .int (nI a)), (0, .ref a0)] → W p l e rL_isFree s m ([.ref a0] : List Value).toArray below meth c s.heap [] 0 0 (MQ below (k2_QcV (.int 1)) ([.ref a0] : List Value).toArray s 0 0 (fun _ => False)) (F0 m 132 ls []) := by
    intro ls hl
    rcases lo with ⟨l1, _⟩ | ⟨l9, hl9, l1, _⟩
    · have c1 : ¬ 0 ≤ j_X2_led vled := by rw [l1]; decide
      rcases pq_lead_n (vdrawn := vdrawn) (vtr := vtr) ha g1 g2 l1 with ⟨q1, q2⟩ | ⟨q1, q2⟩
      · have c2 : nI (pq_ML up a) = nI (zl_nn up a) := by rw [q1]
        have c3 : nI (pq_AL vdrawn vtr vled vh1 vh2 up a) = nI (zl_nn up a) := by rw [q2]
        by_cases c6 : j_X2_pile vdrawn = 0
        · skip
          refine lv_aload_n hx hb dL_isFree_132 rfl (lv_at hl 3 rfl) ?_
          refine jr_callV (n := 0) (C := RX2) (As := []) (rest := []) S (c_X2_led a0 aR aF aG cI vrow vdrawn vtr vled vmov vw1 vw2 veo veb vh1 vt1 vp1 vk1 vg1 vh2 vt2 vp2 vk2 vg2) gL_isFree_X2_led rfl (by decide +kernel) rfl ⟨⟨rfl, rfl⟩, ⟨Nat.le_of_ble_eq_true rfl, Nat.le_of_ble_eq_true rfl⟩, Nat.le_of_ble_eq_true rfl, Nat.le_of_ble_eq_true rfl⟩ hP hK hN [0, 1, 2, 3] [0] rfl rfl 0 2 rfl rfl rfl (lv_nil hl) rfl (Nat.le_of_ble_eq_true rfl) dL_isFree_133 ?_
          refine lv_if_ge (tgt := 143) hx hb dL_isFree_136 (by decide) (fun c_ => absurd c_ c1) (fun _ => ?_)
          refine lv_iconst (v := 1) hx hb dL_isFree_139 (by decide) ?_
          refine lv_goto (tgt := 144) hx hb dL_isFree_140 (by decide) ?_
          refine lv_istore (lv' := [(4, .int 1), (2, .int (nI (pq_AL vdrawn vtr vled vh1 vh2 up a))), (3, .int (nI (pq_ML up a))), (1, .int (nI a)), (0, .ref a0)]) hx hb dL_isFree_144 hl (by decide) rfl (fun ls hl => ?_)
          refine lv_aload_n hx hb dL_isFree_146 rfl (lv_at hl 4 rfl) ?_
          refine lv_iload_n hx hb dL_isFree_147 rfl (lv_at hl 3 rfl) ?_
          refine jr_callV (n := 1) (C := RX2) (As := [.int (nI a)]) (rest := []) S (c_X2_cards a0 aR aF aG cI vrow vdrawn vtr vled vmov vw1 vw2 veo veb vh1 vt1 vp1 vk1 vg1 vh2 vt2 vp2 vk2 vg2 (nI a) hAa) gL_isFree_X2_cards rfl (by decide +kernel) rfl ⟨⟨rfl, rfl⟩, ⟨Nat.le_of_ble_eq_true rfl, Nat.le_of_ble_eq_true rfl⟩, Nat.le_of_ble_eq_true rfl, Nat.le_of_ble_eq_true rfl⟩ hP hK hN [0, 1, 2, 3] [0] rfl rfl 0 2 rfl rfl rfl (lv_nil hl) rfl (Nat.le_of_ble_eq_true rfl) dL_isFree_148 ?_
          rw [eA]
          refine lv_istore (lv' := [(5, .int (nI (zl_nn up a))), (4, .int 1), (2, .int (nI (pq_AL vdrawn vtr vled vh1 vh2 up a))), (3, .int (nI (pq_ML up a))), (1, .int (nI a)), (0, .ref a0)]) hx hb dL_isFree_151 hl (by decide) rfl (fun ls hl => ?_)
          refine lv_iload_n hx hb dL_isFree_153 rfl (lv_at hl 2 rfl) ?_
          refine lv_aload_n hx hb dL_isFree_154 rfl (lv_at hl 5 rfl) ?_
          refine jr_callV (n := 0) (C := RX2) (As := []) (rest := [.int (nI (pq_AL vdrawn vtr vled vh1 vh2 up a))]) S (c_X2_choices a0 aR aF aG cI vrow vdrawn vtr vled vmov vw1 vw2 veo veb vh1 vt1 vp1 vk1 vg1 vh2 vt2 vp2 vk2 vg2) gL_isFree_X2_choices rfl (by decide +kernel) rfl ⟨⟨rfl, rfl⟩, ⟨Nat.le_of_ble_eq_true rfl, Nat.le_of_ble_eq_true rfl⟩, Nat.le_of_ble_eq_true rfl, Nat.le_of_ble_eq_true rfl⟩ hP hK hN [0, 1, 2, 3] [0] rfl rfl 0 2 rfl rfl rfl (lv_nil hl) rfl (Nat.le_of_ble_eq_true rfl) dL_isFree_155 ?_
          refine lv_icmp_ne (tgt := 211) hx hb dL_isFree_158 (by decide) (fun c_ => absurd cch c_) (fun _ => ?_)
          refine lv_iload_n hx hb dL_isFree_161 rfl (lv_at hl 2 rfl) ?_
          refine lv_if_le (tgt := 211) hx hb dL_isFree_162 (by decide) (fun c_ => absurd c_ cal) (fun _ => ?_)
          refine lv_aload_n hx hb dL_isFree_165 rfl (lv_at hl 5 rfl) ?_
          refine jr_callV (n := 0) (C := RX2) (As := []) (rest := []) S (c_X2_pile a0 aR aF aG cI vrow vdrawn vtr vled vmov vw1 vw2 veo veb vh1 vt1 vp1 vk1 vg1 vh2 vt2 vp2 vk2 vg2) gL_isFree_X2_pile rfl (by decide +kernel) rfl ⟨⟨rfl, rfl⟩, ⟨Nat.le_of_ble_eq_true rfl, Nat.le_of_ble_eq_true rfl⟩, Nat.le_of_ble_eq_true rfl, Nat.le_of_ble_eq_true rfl⟩ hP hK hN [0, 1, 2, 3] [0] rfl rfl 0 2 rfl rfl rfl (lv_nil hl) rfl (Nat.le_of_ble_eq_true rfl) dL_isFree_166 ?_
          refine lv_if_eq (tgt := 183) hx hb dL_isFree_169 (by decide) (fun _ => ?_) (fun c_ => absurd c6 c_)
          refine lv_iload hx hb dL_isFree_183 (lv_at hl 1 rfl) ?_
          refine lv_if_eq (tgt := 207) hx hb dL_isFree_185 (by decide) (fun c_ => absurd c_ (by decide)) (fun _ => ?_)
          refine lv_iload_n hx hb dL_isFree_188 rfl (lv_at hl 2 rfl) ?_
          refine lv_iload_n hx hb dL_isFree_189 rfl (lv_at hl 3 rfl) ?_
          refine lv_iload hx hb dL_isFree_190 (lv_at hl 0 rfl) ?_
          refine lv_icmp_ne (tgt := 200) hx hb dL_isFree_192 (by decide) (fun c_ => absurd c2 c_) (fun _ => ?_)
          refine lv_iload hx hb dL_isFree_195 (lv_at hl 0 rfl) ?_
          refine lv_goto (tgt := 204) hx hb dL_isFree_197 (by decide) ?_
          refine lv_icmp_ne (tgt := 211) hx hb dL_isFree_204 (by decide) (fun c_ => absurd c3 c_) (fun _ => ?_)
          refine lv_iconst (v := 1) hx hb dL_isFree_207 (by decide) ?_
          refine lv_goto (tgt := 212) hx hb dL_isFree_208 (by decide) ?_
          exact jr_zret hx hb hr hlocks dL_isFree_212 rfl rfl
        · skip
          refine lv_aload_n hx hb dL_isFree_132 rfl (lv_at hl 3 rfl) ?_
          refine jr_callV (n := 0) (C := RX2) (As := []) (rest := []) S (c_X2_led a0 aR aF aG cI vrow vdrawn vtr vled vmov vw1 vw2 veo veb vh1 vt1 vp1 vk1 vg1 vh2 vt2 vp2 vk2 vg2) gL_isFree_X2_led rfl (by decide +kernel) rfl ⟨⟨rfl, rfl⟩, ⟨Nat.le_of_ble_eq_true rfl, Nat.le_of_ble_eq_true rfl⟩, Nat.le_of_ble_eq_true rfl, Nat.le_of_ble_eq_true rfl⟩ hP hK hN [0, 1, 2, 3] [0] rfl rfl 0 2 rfl rfl rfl (lv_nil hl) rfl (Nat.le_of_ble_eq_true rfl) dL_isFree_133 ?_
          refine lv_if_ge (tgt := 143) hx hb dL_isFree_136 (by decide) (fun c_ => absurd c_ c1) (fun _ => ?_)
          refine lv_iconst (v := 1) hx hb dL_isFree_139 (by decide) ?_
          refine lv_goto (tgt := 144) hx hb dL_isFree_140 (by decide) ?_
          refine lv_istore (lv' := [(4, .int 1), (2, .int (nI (pq_AL vdrawn vtr vled vh1 vh2 up a))), (3, .int (nI (pq_ML up a))), (1, .int (nI a)), (0, .ref a0)]) hx hb dL_isFree_144 hl (by decide) rfl (fun ls hl => ?_)
          refine lv_aload_n hx hb dL_isFree_146 rfl (lv_at hl 4 rfl) ?_
          refine lv_iload_n hx hb dL_isFree_147 rfl (lv_at hl 3 rfl) ?_
          refine jr_callV (n := 1) (C := RX2) (As := [.int (nI a)]) (rest := []) S (c_X2_cards a0 aR aF aG cI vrow vdrawn vtr vled vmov vw1 vw2 veo veb vh1 vt1 vp1 vk1 vg1 vh2 vt2 vp2 vk2 vg2 (nI a) hAa) gL_isFree_X2_cards rfl (by decide +kernel) rfl ⟨⟨rfl, rfl⟩, ⟨Nat.le_of_ble_eq_true rfl, Nat.le_of_ble_eq_true rfl⟩, Nat.le_of_ble_eq_true rfl, Nat.le_of_ble_eq_true rfl⟩ hP hK hN [0, 1, 2, 3] [0] rfl rfl 0 2 rfl rfl rfl (lv_nil hl) rfl (Nat.le_of_ble_eq_true rfl) dL_isFree_148 ?_
          rw [eA]
          refine lv_istore (lv' := [(5, .int (nI (zl_nn up a))), (4, .int 1), (2, .int (nI (pq_AL vdrawn vtr vled vh1 vh2 up a))), (3, .int (nI (pq_ML up a))), (1, .int (nI a)), (0, .ref a0)]) hx hb dL_isFree_151 hl (by decide) rfl (fun ls hl => ?_)
          refine lv_iload_n hx hb dL_isFree_153 rfl (lv_at hl 2 rfl) ?_
          refine lv_aload_n hx hb dL_isFree_154 rfl (lv_at hl 5 rfl) ?_
          refine jr_callV (n := 0) (C := RX2) (As := []) (rest := [.int (nI (pq_AL vdrawn vtr vled vh1 vh2 up a))]) S (c_X2_choices a0 aR aF aG cI vrow vdrawn vtr vled vmov vw1 vw2 veo veb vh1 vt1 vp1 vk1 vg1 vh2 vt2 vp2 vk2 vg2) gL_isFree_X2_choices rfl (by decide +kernel) rfl ⟨⟨rfl, rfl⟩, ⟨Nat.le_of_ble_eq_true rfl, Nat.le_of_ble_eq_true rfl⟩, Nat.le_of_ble_eq_true rfl, Nat.le_of_ble_eq_true rfl⟩ hP hK hN [0, 1, 2, 3] [0] rfl rfl 0 2 rfl rfl rfl (lv_nil hl) rfl (Nat.le_of_ble_eq_true rfl) dL_isFree_155 ?_
          refine lv_icmp_ne (tgt := 211) hx hb dL_isFree_158 (by decide) (fun c_ => absurd cch c_) (fun _ => ?_)
          refine lv_iload_n hx hb dL_isFree_161 rfl (lv_at hl 2 rfl) ?_
          refine lv_if_le (tgt := 211) hx hb dL_isFree_162 (by decide) (fun c_ => absurd c_ cal) (fun _ => ?_)
          refine lv_aload_n hx hb dL_isFree_165 rfl (lv_at hl 5 rfl) ?_
          refine jr_callV (n := 0) (C := RX2) (As := []) (rest := []) S (c_X2_pile a0 aR aF aG cI vrow vdrawn vtr vled vmov vw1 vw2 veo veb vh1 vt1 vp1 vk1 vg1 vh2 vt2 vp2 vk2 vg2) gL_isFree_X2_pile rfl (by decide +kernel) rfl ⟨⟨rfl, rfl⟩, ⟨Nat.le_of_ble_eq_true rfl, Nat.le_of_ble_eq_true rfl⟩, Nat.le_of_ble_eq_true rfl, Nat.le_of_ble_eq_true rfl⟩ hP hK hN [0, 1, 2, 3] [0] rfl rfl 0 2 rfl rfl rfl (lv_nil hl) rfl (Nat.le_of_ble_eq_true rfl) dL_isFree_166 ?_
          refine lv_if_eq (tgt := 183) hx hb dL_isFree_169 (by decide) (fun c_ => absurd c_ c6) (fun _ => ?_)
          refine lv_iload hx hb dL_isFree_172 (lv_at hl 1 rfl) ?_
          refine lv_if_ne (tgt := 183) hx hb dL_isFree_174 (by decide) (fun _ => ?_) (fun c_ => absurd c_ (by decide))
          refine lv_iload hx hb dL_isFree_183 (lv_at hl 1 rfl) ?_
          refine lv_if_eq (tgt := 207) hx hb dL_isFree_185 (by decide) (fun c_ => absurd c_ (by decide)) (fun _ => ?_)
          refine lv_iload_n hx hb dL_isFree_188 rfl (lv_at hl 2 rfl) ?_
          refine lv_iload_n hx hb dL_isFree_189 rfl (lv_at hl 3 rfl) ?_
          refine lv_iload hx hb dL_isFree_190 (lv_at hl 0 rfl) ?_
          refine lv_icmp_ne (tgt := 200) hx hb dL_isFree_192 (by decide) (fun c_ => absurd c2 c_) (fun _ => ?_)
          refine lv_iload hx hb dL_isFree_195 (lv_at hl 0 rfl) ?_
          refine lv_goto (tgt := 204) hx hb dL_isFree_197 (by decide) ?_
          refine lv_icmp_ne (tgt := 211) hx hb dL_isFree_204 (by decide) (fun c_ => absurd c3 c_) (fun _ => ?_)
          refine lv_iconst (v := 1) hx hb dL_isFree_207 (by decide) ?_
          refine lv_goto (tgt := 212) hx hb dL_isFree_208 (by decide) ?_
          exact jr_zret hx hb hr hlocks dL_isFree_212 rfl rfl
      · have c2 : ¬ nI (pq_ML up a) = nI (zl_nn up a) := fun z => by
          have := (nI_eq (by omega) (by omega)).mp z
          omega
        have c3 : nI (pq_AL vdrawn vtr vled vh1 vh2 up a) = (nI (zl_nn up a)) - (nI (pq_ML up a)) := by rw [pk_sub (by omega)]; congr 1; omega
        by_cases c6 : j_X2_pile vdrawn = 0
        · skip
          refine lv_aload_n hx hb dL_isFree_132 rfl (lv_at hl 3 rfl) ?_
          refine jr_callV (n := 0) (C := RX2) (As := []) (rest := []) S (c_X2_led a0 aR aF aG cI vrow vdrawn vtr vled vmov vw1 vw2 veo veb vh1 vt1 vp1 vk1 vg1 vh2 vt2 vp2 vk2 vg2) gL_isFree_X2_led rfl (by decide +kernel) rfl ⟨⟨rfl, rfl⟩, ⟨Nat.le_of_ble_eq_true rfl, Nat.le_of_ble_eq_true rfl⟩, Nat.le_of_ble_eq_true rfl, Nat.le_of_ble_eq_true rfl⟩ hP hK hN [0, 1, 2, 3] [0] rfl rfl 0 2 rfl rfl rfl (lv_nil hl) rfl (Nat.le_of_ble_eq_true rfl) dL_isFree_133 ?_
          refine lv_if_ge (tgt := 143) hx hb dL_isFree_136 (by decide) (fun c_ => absurd c_ c1) (fun _ => ?_)
          refine lv_iconst (v := 1) hx hb dL_isFree_139 (by decide) ?_
          refine lv_goto (tgt := 144) hx hb dL_isFree_140 (by decide) ?_
          refine lv_istore (lv' := [(4, .int 1), (2, .int (nI (pq_AL vdrawn vtr vled vh1 vh2 up a))), (3, .int (nI (pq_ML up a))), (1, .int (nI a)), (0, .ref a0)]) hx hb dL_isFree_144 hl (by decide) rfl (fun ls hl => ?_)
          refine lv_aload_n hx hb dL_isFree_146 rfl (lv_at hl 4 rfl) ?_
          refine lv_iload_n hx hb dL_isFree_147 rfl (lv_at hl 3 rfl) ?_
          refine jr_callV (n := 1) (C := RX2) (As := [.int (nI a)]) (rest := []) S (c_X2_cards a0 aR aF aG cI vrow vdrawn vtr vled vmov vw1 vw2 veo veb vh1 vt1 vp1 vk1 vg1 vh2 vt2 vp2 vk2 vg2 (nI a) hAa) gL_isFree_X2_cards rfl (by decide +kernel) rfl ⟨⟨rfl, rfl⟩, ⟨Nat.le_of_ble_eq_true rfl, Nat.le_of_ble_eq_true rfl⟩, Nat.le_of_ble_eq_true rfl, Nat.le_of_ble_eq_true rfl⟩ hP hK hN [0, 1, 2, 3] [0] rfl rfl 0 2 rfl rfl rfl (lv_nil hl) rfl (Nat.le_of_ble_eq_true rfl) dL_isFree_148 ?_
          rw [eA]
          refine lv_istore (lv' := [(5, .int (nI (zl_nn up a))), (4, .int 1), (2, .int (nI (pq_AL vdrawn vtr vled vh1 vh2 up a))), (3, .int (nI (pq_ML up a))), (1, .int (nI a)), (0, .ref a0)]) hx hb dL_isFree_151 hl (by decide) rfl (fun ls hl => ?_)
          refine lv_iload_n hx hb dL_isFree_153 rfl (lv_at hl 2 rfl) ?_
          refine lv_aload_n hx hb dL_isFree_154 rfl (lv_at hl 5 rfl) ?_
          refine jr_callV (n := 0) (C := RX2) (As := []) (rest := [.int (nI (pq_AL vdrawn vtr vled vh1 vh2 up a))]) S (c_X2_choices a0 aR aF aG cI vrow vdrawn vtr vled vmov vw1 vw2 veo veb vh1 vt1 vp1 vk1 vg1 vh2 vt2 vp2 vk2 vg2) gL_isFree_X2_choices rfl (by decide +kernel) rfl ⟨⟨rfl, rfl⟩, ⟨Nat.le_of_ble_eq_true rfl, Nat.le_of_ble_eq_true rfl⟩, Nat.le_of_ble_eq_true rfl, Nat.le_of_ble_eq_true rfl⟩ hP hK hN [0, 1, 2, 3] [0] rfl rfl 0 2 rfl rfl rfl (lv_nil hl) rfl (Nat.le_of_ble_eq_true rfl) dL_isFree_155 ?_
          refine lv_icmp_ne (tgt := 211) hx hb dL_isFree_158 (by decide) (fun c_ => absurd cch c_) (fun _ => ?_)
          refine lv_iload_n hx hb dL_isFree_161 rfl (lv_at hl 2 rfl) ?_
          refine lv_if_le (tgt := 211) hx hb dL_isFree_162 (by decide) (fun c_ => absurd c_ cal) (fun _ => ?_)
          refine lv_aload_n hx hb dL_isFree_165 rfl (lv_at hl 5 rfl) ?_
          refine jr_callV (n := 0) (C := RX2) (As := []) (rest := []) S (c_X2_pile a0 aR aF aG cI vrow vdrawn vtr vled vmov vw1 vw2 veo veb vh1 vt1 vp1 vk1 vg1 vh2 vt2 vp2 vk2 vg2) gL_isFree_X2_pile rfl (by decide +kernel) rfl ⟨⟨rfl, rfl⟩, ⟨Nat.le_of_ble_eq_true rfl, Nat.le_of_ble_eq_true rfl⟩, Nat.le_of_ble_eq_true rfl, Nat.le_of_ble_eq_true rfl⟩ hP hK hN [0, 1, 2, 3] [0] rfl rfl 0 2 rfl rfl rfl (lv_nil hl) rfl (Nat.le_of_ble_eq_true rfl) dL_isFree_166 ?_
          refine lv_if_eq (tgt := 183) hx hb dL_isFree_169 (by decide) (fun _ => ?_) (fun c_ => absurd c6 c_)
          refine lv_iload hx hb dL_isFree_183 (lv_at hl 1 rfl) ?_
          refine lv_if_eq (tgt := 207) hx hb dL_isFree_185 (by decide) (fun c_ => absurd c_ (by decide)) (fun _ => ?_)
          refine lv_iload_n hx hb dL_isFree_188 rfl (lv_at hl 2 rfl) ?_
          refine lv_iload_n hx hb dL_isFree_189 rfl (lv_at hl 3 rfl) ?_
          refine lv_iload hx hb dL_isFree_190 (lv_at hl 0 rfl) ?_
          refine lv_icmp_ne (tgt := 200) hx hb dL_isFree_192 (by decide) (fun _ => ?_) (fun c_ => absurd c_ c2)
          refine lv_iload hx hb dL_isFree_200 (lv_at hl 0 rfl) ?_
          refine lv_iload_n hx hb dL_isFree_202 rfl (lv_at hl 3 rfl) ?_
          refine lv_isub hx hb dL_isFree_203 ?_
          refine lv_icmp_ne (tgt := 211) hx hb dL_isFree_204 (by decide) (fun c_ => absurd c3 c_) (fun _ => ?_)
          refine lv_iconst (v := 1) hx hb dL_isFree_207 (by decide) ?_
          refine lv_goto (tgt := 212) hx hb dL_isFree_208 (by decide) ?_
          exact jr_zret hx hb hr hlocks dL_isFree_212 rfl rfl
        · skip
          refine lv_aload_n hx hb dL_isFree_132 rfl (lv_at hl 3 rfl) ?_
          refine jr_callV (n := 0) (C := RX2) (As := []) (rest := []) S (c_X2_led a0 aR aF aG cI vrow vdrawn vtr vled vmov vw1 vw2 veo veb vh1 vt1 vp1 vk1 vg1 vh2 vt2 vp2 vk2 vg2) gL_isFree_X2_led rfl (by decide +kernel) rfl ⟨⟨rfl, rfl⟩, ⟨Nat.le_of_ble_eq_true rfl, Nat.le_of_ble_eq_true rfl⟩, Nat.le_of_ble_eq_true rfl, Nat.le_of_ble_eq_true rfl⟩ hP hK hN [0, 1, 2, 3] [0] rfl rfl 0 2 rfl rfl rfl (lv_nil hl) rfl (Nat.le_of_ble_eq_true rfl) dL_isFree_133 ?_
          refine lv_if_ge (tgt := 143) hx hb dL_isFree_136 (by decide) (fun c_ => absurd c_ c1) (fun _ => ?_)
          refine lv_iconst (v := 1) hx hb dL_isFree_139 (by decide) ?_
          refine lv_goto (tgt := 144) hx hb dL_isFree_140 (by decide) ?_
          refine lv_istore (lv' := [(4, .int 1), (2, .int (nI (pq_AL vdrawn vtr vled vh1 vh2 up a))), (3, .int (nI (pq_ML up a))), (1, .int (nI a)), (0, .ref a0)]) hx hb dL_isFree_144 hl (by decide) rfl (fun ls hl => ?_)
          refine lv_aload_n hx hb dL_isFree_146 rfl (lv_at hl 4 rfl) ?_
          refine lv_iload_n hx hb dL_isFree_147 rfl (lv_at hl 3 rfl) ?_
          refine jr_callV (n := 1) (C := RX2) (As := [.int (nI a)]) (rest := []) S (c_X2_cards a0 aR aF aG cI vrow vdrawn vtr vled vmov vw1 vw2 veo veb vh1 vt1 vp1 vk1 vg1 vh2 vt2 vp2 vk2 vg2 (nI a) hAa) gL_isFree_X2_cards rfl (by decide +kernel) rfl ⟨⟨rfl, rfl⟩, ⟨Nat.le_of_ble_eq_true rfl, Nat.le_of_ble_eq_true rfl⟩, Nat.le_of_ble_eq_true rfl, Nat.le_of_ble_eq_true rfl⟩ hP hK hN [0, 1, 2, 3] [0] rfl rfl 0 2 rfl rfl rfl (lv_nil hl) rfl (Nat.le_of_ble_eq_true rfl) dL_isFree_148 ?_
          rw [eA]
          refine lv_istore (lv' := [(5, .int (nI (zl_nn up a))), (4, .int 1), (2, .int (nI (pq_AL vdrawn vtr vled vh1 vh2 up a))), (3, .int (nI (pq_ML up a))), (1, .int (nI a)), (0, .ref a0)]) hx hb dL_isFree_151 hl (by decide) rfl (fun ls hl => ?_)
          refine lv_iload_n hx hb dL_isFree_153 rfl (lv_at hl 2 rfl) ?_
          refine lv_aload_n hx hb dL_isFree_154 rfl (lv_at hl 5 rfl) ?_
          refine jr_callV (n := 0) (C := RX2) (As := []) (rest := [.int (nI (pq_AL vdrawn vtr vled vh1 vh2 up a))]) S (c_X2_choices a0 aR aF aG cI vrow vdrawn vtr vled vmov vw1 vw2 veo veb vh1 vt1 vp1 vk1 vg1 vh2 vt2 vp2 vk2 vg2) gL_isFree_X2_choices rfl (by decide +kernel) rfl ⟨⟨rfl, rfl⟩, ⟨Nat.le_of_ble_eq_true rfl, Nat.le_of_ble_eq_true rfl⟩, Nat.le_of_ble_eq_true rfl, Nat.le_of_ble_eq_true rfl⟩ hP hK hN [0, 1, 2, 3] [0] rfl rfl 0 2 rfl rfl rfl (lv_nil hl) rfl (Nat.le_of_ble_eq_true rfl) dL_isFree_155 ?_
          refine lv_icmp_ne (tgt := 211) hx hb dL_isFree_158 (by decide) (fun c_ => absurd cch c_) (fun _ => ?_)
          refine lv_iload_n hx hb dL_isFree_161 rfl (lv_at hl 2 rfl) ?_
          refine lv_if_le (tgt := 211) hx hb dL_isFree_162 (by decide) (fun c_ => absurd c_ cal) (fun _ => ?_)
          refine lv_aload_n hx hb dL_isFree_165 rfl (lv_at hl 5 rfl) ?_
          refine jr_callV (n := 0) (C := RX2) (As := []) (rest := []) S (c_X2_pile a0 aR aF aG cI vrow vdrawn vtr vled vmov vw1 vw2 veo veb vh1 vt1 vp1 vk1 vg1 vh2 vt2 vp2 vk2 vg2) gL_isFree_X2_pile rfl (by decide +kernel) rfl ⟨⟨rfl, rfl⟩, ⟨Nat.le_of_ble_eq_true rfl, Nat.le_of_ble_eq_true rfl⟩, Nat.le_of_ble_eq_true rfl, Nat.le_of_ble_eq_true rfl⟩ hP hK hN [0, 1, 2, 3] [0] rfl rfl 0 2 rfl rfl rfl (lv_nil hl) rfl (Nat.le_of_ble_eq_true rfl) dL_isFree_166 ?_
          refine lv_if_eq (tgt := 183) hx hb dL_isFree_169 (by decide) (fun c_ => absurd c_ c6) (fun _ => ?_)
          refine lv_iload hx hb dL_isFree_172 (lv_at hl 1 rfl) ?_
          refine lv_if_ne (tgt := 183) hx hb dL_isFree_174 (by decide) (fun _ => ?_) (fun c_ => absurd c_ (by decide))
          refine lv_iload hx hb dL_isFree_183 (lv_at hl 1 rfl) ?_
          refine lv_if_eq (tgt := 207) hx hb dL_isFree_185 (by decide) (fun c_ => absurd c_ (by decide)) (fun _ => ?_)
          refine lv_iload_n hx hb dL_isFree_188 rfl (lv_at hl 2 rfl) ?_
          refine lv_iload_n hx hb dL_isFree_189 rfl (lv_at hl 3 rfl) ?_
          refine lv_iload hx hb dL_isFree_190 (lv_at hl 0 rfl) ?_
          refine lv_icmp_ne (tgt := 200) hx hb dL_isFree_192 (by decide) (fun _ => ?_) (fun c_ => absurd c_ c2)
          refine lv_iload hx hb dL_isFree_200 (lv_at hl 0 rfl) ?_
          refine lv_iload_n hx hb dL_isFree_202 rfl (lv_at hl 3 rfl) ?_
          refine lv_isub hx hb dL_isFree_203 ?_
          refine lv_icmp_ne (tgt := 211) hx hb dL_isFree_204 (by decide) (fun c_ => absurd c3 c_) (fun _ => ?_)
          refine lv_iconst (v := 1) hx hb dL_isFree_207 (by decide) ?_
          refine lv_goto (tgt := 212) hx hb dL_isFree_208 (by decide) ?_
          exact jr_zret hx hb hr hlocks dL_isFree_212 rfl rfl
    · have c1 : 0 ≤ j_X2_led vled := by rw [l1]; exact nI_pos' (show l9 < 2 ^ 31 by omega)
      by_cases c6 : j_X2_pile vdrawn = 0
      · skip
        refine lv_aload_n hx hb dL_isFree_132 rfl (lv_at hl 3 rfl) ?_
        refine jr_callV (n := 0) (C := RX2) (As := []) (rest := []) S (c_X2_led a0 aR aF aG cI vrow vdrawn vtr vled vmov vw1 vw2 veo veb vh1 vt1 vp1 vk1 vg1 vh2 vt2 vp2 vk2 vg2) gL_isFree_X2_led rfl (by decide +kernel) rfl ⟨⟨rfl, rfl⟩, ⟨Nat.le_of_ble_eq_true rfl, Nat.le_of_ble_eq_true rfl⟩, Nat.le_of_ble_eq_true rfl, Nat.le_of_ble_eq_true rfl⟩ hP hK hN [0, 1, 2, 3] [0] rfl rfl 0 2 rfl rfl rfl (lv_nil hl) rfl (Nat.le_of_ble_eq_true rfl) dL_isFree_133 ?_
        refine lv_if_ge (tgt := 143) hx hb dL_isFree_136 (by decide) (fun _ => ?_) (fun c_ => absurd c1 c_)
        refine lv_iconst (v := 0) hx hb dL_isFree_143 (by decide) ?_
        refine lv_istore (lv' := [(4, .int 0), (2, .int (nI (pq_AL vdrawn vtr vled vh1 vh2 up a))), (3, .int (nI (pq_ML up a))), (1, .int (nI a)), (0, .ref a0)]) hx hb dL_isFree_144 hl (by decide) rfl (fun ls hl => ?_)
        refine lv_aload_n hx hb dL_isFree_146 rfl (lv_at hl 4 rfl) ?_
        refine lv_iload_n hx hb dL_isFree_147 rfl (lv_at hl 3 rfl) ?_
        refine jr_callV (n := 1) (C := RX2) (As := [.int (nI a)]) (rest := []) S (c_X2_cards a0 aR aF aG cI vrow vdrawn vtr vled vmov vw1 vw2 veo veb vh1 vt1 vp1 vk1 vg1 vh2 vt2 vp2 vk2 vg2 (nI a) hAa) gL_isFree_X2_cards rfl (by decide +kernel) rfl ⟨⟨rfl, rfl⟩, ⟨Nat.le_of_ble_eq_true rfl, Nat.le_of_ble_eq_true rfl⟩, Nat.le_of_ble_eq_true rfl, Nat.le_of_ble_eq_true rfl⟩ hP hK hN [0, 1, 2, 3] [0] rfl rfl 0 2 rfl rfl rfl (lv_nil hl) rfl (Nat.le_of_ble_eq_true rfl) dL_isFree_148 ?_
        rw [eA]
        refine lv_istore (lv' := [(5, .int (nI (zl_nn up a))), (4, .int 0), (2, .int (nI (pq_AL vdrawn vtr vled vh1 vh2 up a))), (3, .int (nI (pq_ML up a))), (1, .int (nI a)), (0, .ref a0)]) hx hb dL_isFree_151 hl (by decide) rfl (fun ls hl => ?_)
        refine lv_iload_n hx hb dL_isFree_153 rfl (lv_at hl 2 rfl) ?_
        refine lv_aload_n hx hb dL_isFree_154 rfl (lv_at hl 5 rfl) ?_
        refine jr_callV (n := 0) (C := RX2) (As := []) (rest := [.int (nI (pq_AL vdrawn vtr vled vh1 vh2 up a))]) S (c_X2_choices a0 aR aF aG cI vrow vdrawn vtr vled vmov vw1 vw2 veo veb vh1 vt1 vp1 vk1 vg1 vh2 vt2 vp2 vk2 vg2) gL_isFree_X2_choices rfl (by decide +kernel) rfl ⟨⟨rfl, rfl⟩, ⟨Nat.le_of_ble_eq_true rfl, Nat.le_of_ble_eq_true rfl⟩, Nat.le_of_ble_eq_true rfl, Nat.le_of_ble_eq_true rfl⟩ hP hK hN [0, 1, 2, 3] [0] rfl rfl 0 2 rfl rfl rfl (lv_nil hl) rfl (Nat.le_of_ble_eq_true rfl) dL_isFree_155 ?_
        refine lv_icmp_ne (tgt := 211) hx hb dL_isFree_158 (by decide) (fun c_ => absurd cch c_) (fun _ => ?_)
        refine lv_iload_n hx hb dL_isFree_161 rfl (lv_at hl 2 rfl) ?_
        refine lv_if_le (tgt := 211) hx hb dL_isFree_162 (by decide) (fun c_ => absurd c_ cal) (fun _ => ?_)
        refine lv_aload_n hx hb dL_isFree_165 rfl (lv_at hl 5 rfl) ?_
        refine jr_callV (n := 0) (C := RX2) (As := []) (rest := []) S (c_X2_pile a0 aR aF aG cI vrow vdrawn vtr vled vmov vw1 vw2 veo veb vh1 vt1 vp1 vk1 vg1 vh2 vt2 vp2 vk2 vg2) gL_isFree_X2_pile rfl (by decide +kernel) rfl ⟨⟨rfl, rfl⟩, ⟨Nat.le_of_ble_eq_true rfl, Nat.le_of_ble_eq_true rfl⟩, Nat.le_of_ble_eq_true rfl, Nat.le_of_ble_eq_true rfl⟩ hP hK hN [0, 1, 2, 3] [0] rfl rfl 0 2 rfl rfl rfl (lv_nil hl) rfl (Nat.le_of_ble_eq_true rfl) dL_isFree_166 ?_
        refine lv_if_eq (tgt := 183) hx hb dL_isFree_169 (by decide) (fun _ => ?_) (fun c_ => absurd c6 c_)
        refine lv_iload hx hb dL_isFree_183 (lv_at hl 1 rfl) ?_
        refine lv_if_eq (tgt := 207) hx hb dL_isFree_185 (by decide) (fun _ => ?_) (fun c_ => absurd (by decide) c_)
        refine lv_iconst (v := 1) hx hb dL_isFree_207 (by decide) ?_
        refine lv_goto (tgt := 212) hx hb dL_isFree_208 (by decide) ?_
        exact jr_zret hx hb hr hlocks dL_isFree_212 rfl rfl
      · have e15 : E < 15 := by
          rcases Nat.lt_or_ge E 15 with z | z
          · exact z
          · exact absurd (by rw [hpile, show E = 15 by omega]; rfl) c6
        have c3 : nI (pq_AL vdrawn vtr vled vh1 vh2 up a) = nI (zl_nn up a) := by rw [pq_reply_n ha g1 g2 e15 hdr (by rw [l1]; exact zs_nm1 l9 hl9)]
        refine lv_aload_n hx hb dL_isFree_132 rfl (lv_at hl 3 rfl) ?_
        refine jr_callV (n := 0) (C := RX2) (As := []) (rest := []) S (c_X2_led a0 aR aF aG cI vrow vdrawn vtr vled vmov vw1 vw2 veo veb vh1 vt1 vp1 vk1 vg1 vh2 vt2 vp2 vk2 vg2) gL_isFree_X2_led rfl (by decide +kernel) rfl ⟨⟨rfl, rfl⟩, ⟨Nat.le_of_ble_eq_true rfl, Nat.le_of_ble_eq_true rfl⟩, Nat.le_of_ble_eq_true rfl, Nat.le_of_ble_eq_true rfl⟩ hP hK hN [0, 1, 2, 3] [0] rfl rfl 0 2 rfl rfl rfl (lv_nil hl) rfl (Nat.le_of_ble_eq_true rfl) dL_isFree_133 ?_
        refine lv_if_ge (tgt := 143) hx hb dL_isFree_136 (by decide) (fun _ => ?_) (fun c_ => absurd c1 c_)
        refine lv_iconst (v := 0) hx hb dL_isFree_143 (by decide) ?_
        refine lv_istore (lv' := [(4, .int 0), (2, .int (nI (pq_AL vdrawn vtr vled vh1 vh2 up a))), (3, .int (nI (pq_ML up a))), (1, .int (nI a)), (0, .ref a0)]) hx hb dL_isFree_144 hl (by decide) rfl (fun ls hl => ?_)
        refine lv_aload_n hx hb dL_isFree_146 rfl (lv_at hl 4 rfl) ?_
        refine lv_iload_n hx hb dL_isFree_147 rfl (lv_at hl 3 rfl) ?_
        refine jr_callV (n := 1) (C := RX2) (As := [.int (nI a)]) (rest := []) S (c_X2_cards a0 aR aF aG cI vrow vdrawn vtr vled vmov vw1 vw2 veo veb vh1 vt1 vp1 vk1 vg1 vh2 vt2 vp2 vk2 vg2 (nI a) hAa) gL_isFree_X2_cards rfl (by decide +kernel) rfl ⟨⟨rfl, rfl⟩, ⟨Nat.le_of_ble_eq_true rfl, Nat.le_of_ble_eq_true rfl⟩, Nat.le_of_ble_eq_true rfl, Nat.le_of_ble_eq_true rfl⟩ hP hK hN [0, 1, 2, 3] [0] rfl rfl 0 2 rfl rfl rfl (lv_nil hl) rfl (Nat.le_of_ble_eq_true rfl) dL_isFree_148 ?_
        rw [eA]
        refine lv_istore (lv' := [(5, .int (nI (zl_nn up a))), (4, .int 0), (2, .int (nI (pq_AL vdrawn vtr vled vh1 vh2 up a))), (3, .int (nI (pq_ML up a))), (1, .int (nI a)), (0, .ref a0)]) hx hb dL_isFree_151 hl (by decide) rfl (fun ls hl => ?_)
        refine lv_iload_n hx hb dL_isFree_153 rfl (lv_at hl 2 rfl) ?_
        refine lv_aload_n hx hb dL_isFree_154 rfl (lv_at hl 5 rfl) ?_
        refine jr_callV (n := 0) (C := RX2) (As := []) (rest := [.int (nI (pq_AL vdrawn vtr vled vh1 vh2 up a))]) S (c_X2_choices a0 aR aF aG cI vrow vdrawn vtr vled vmov vw1 vw2 veo veb vh1 vt1 vp1 vk1 vg1 vh2 vt2 vp2 vk2 vg2) gL_isFree_X2_choices rfl (by decide +kernel) rfl ⟨⟨rfl, rfl⟩, ⟨Nat.le_of_ble_eq_true rfl, Nat.le_of_ble_eq_true rfl⟩, Nat.le_of_ble_eq_true rfl, Nat.le_of_ble_eq_true rfl⟩ hP hK hN [0, 1, 2, 3] [0] rfl rfl 0 2 rfl rfl rfl (lv_nil hl) rfl (Nat.le_of_ble_eq_true rfl) dL_isFree_155 ?_
        refine lv_icmp_ne (tgt := 211) hx hb dL_isFree_158 (by decide) (fun c_ => absurd cch c_) (fun _ => ?_)
        refine lv_iload_n hx hb dL_isFree_161 rfl (lv_at hl 2 rfl) ?_
        refine lv_if_le (tgt := 211) hx hb dL_isFree_162 (by decide) (fun c_ => absurd c_ cal) (fun _ => ?_)
        refine lv_aload_n hx hb dL_isFree_165 rfl (lv_at hl 5 rfl) ?_
        refine jr_callV (n := 0) (C := RX2) (As := []) (rest := []) S (c_X2_pile a0 aR aF aG cI vrow vdrawn vtr vled vmov vw1 vw2 veo veb vh1 vt1 vp1 vk1 vg1 vh2 vt2 vp2 vk2 vg2) gL_isFree_X2_pile rfl (by decide +kernel) rfl ⟨⟨rfl, rfl⟩, ⟨Nat.le_of_ble_eq_true rfl, Nat.le_of_ble_eq_true rfl⟩, Nat.le_of_ble_eq_true rfl, Nat.le_of_ble_eq_true rfl⟩ hP hK hN [0, 1, 2, 3] [0] rfl rfl 0 2 rfl rfl rfl (lv_nil hl) rfl (Nat.le_of_ble_eq_true rfl) dL_isFree_166 ?_
        refine lv_if_eq (tgt := 183) hx hb dL_isFree_169 (by decide) (fun c_ => absurd c_ c6) (fun _ => ?_)
        refine lv_iload hx hb dL_isFree_172 (lv_at hl 1 rfl) ?_
        refine lv_if_ne (tgt := 183) hx hb dL_isFree_174 (by decide) (fun c_ => absurd (by decide) c_) (fun _ => ?_)
        refine lv_iload_n hx hb dL_isFree_177 rfl (lv_at hl 2 rfl) ?_
        refine lv_iload hx hb dL_isFree_178 (lv_at hl 0 rfl) ?_
        refine lv_icmp_ne (tgt := 211) hx hb dL_isFree_180 (by decide) (fun c_ => absurd c3 c_) (fun _ => ?_)
        refine lv_iload hx hb dL_isFree_183 (lv_at hl 1 rfl) ?_
        refine lv_if_eq (tgt := 207) hx hb dL_isFree_185 (by decide) (fun _ => ?_) (fun c_ => absurd (by decide) c_)
        refine lv_iconst (v := 1) hx hb dL_isFree_207 (by decide) ?_
        refine lv_goto (tgt := 212) hx hb dL_isFree_208 (by decide) ?_
        exact jr_zret hx hb hr hlocks dL_isFree_212 rfl rfl
  have lp : ∀ (n k : Nat), k + n = zl_nn up a → ∀ (ls : Array Slot), lv_has ls 7 [(4, .int (nI k)), (2, .int (nI (fb_ct (fun j => decide (j_X2_reasonAgainst vdrawn vtr vled (nI a) vh1 vh2 (nI (j_X2_cardAt vh1 vh2 (nI a) (nI j)).toNatClampNeg) = 0)) k))), (3, .int (nI (fb_ct (fun j => decide (40 ≤ (j_X2_cardAt vh1 vh2 (nI a) (nI j)).toNatClampNeg)) k))), (1, .int (nI a)), (0, .ref a0)] → W p l e rL_isFree s m ([.ref a0] : List Value).toArray below meth c s.heap [] 0 0 (MQ below (k2_QcV (.int 1)) ([.ref a0] : List Value).toArray s 0 0 (fun _ => False)) (F0 m 12 ls []) := by
    intro n
    induction n with
    | zero =>
      intro k hkn ls hl
      have ek : k = zl_nn up a := by omega
      subst ek
      rw [hAL, hML] at hl
      have c1 : j_X2_cards vh1 vh2 (nI a) ≤ nI (zl_nn up a) := by rw [eA]; exact nI_le (Nat.le_refl _) (by omega)
      refine lv_iload hx hb dL_isFree_12 (lv_at hl 0 rfl) ?_
      refine lv_aload_n hx hb dL_isFree_14 rfl (lv_at hl 4 rfl) ?_
      refine lv_iload_n hx hb dL_isFree_15 rfl (lv_at hl 3 rfl) ?_
      refine jr_callV (n := 1) (C := RX2) (As := [.int (nI a)]) (rest := [.int (nI (zl_nn up a))]) S (c_X2_cards a0 aR aF aG cI vrow vdrawn vtr vled vmov vw1 vw2 veo veb vh1 vt1 vp1 vk1 vg1 vh2 vt2 vp2 vk2 vg2 (nI a) hAa) gL_isFree_X2_cards rfl (by decide +kernel) rfl ⟨⟨rfl, rfl⟩, ⟨Nat.le_of_ble_eq_true rfl, Nat.le_of_ble_eq_true rfl⟩, Nat.le_of_ble_eq_true rfl, Nat.le_of_ble_eq_true rfl⟩ hP hK hN [0, 1, 2, 3] [0] rfl rfl 0 2 rfl rfl rfl (lv_nil hl) rfl (Nat.le_of_ble_eq_true rfl) dL_isFree_16 ?_
      refine lv_icmp_ge (tgt := 132) hx hb dL_isFree_19 (by decide) (fun _ => ?_) (fun c_ => absurd c1 c_)
      exact K ls (lv_sub hl [1, 2, 3, 4] rfl)
    | succ n ih =>
      intro k hkn ls hl
      obtain ⟨d, hd, ud, ed, cd⟩ := pq_kth (vh1 := vh1) (vh2 := vh2) ha g1 g2 (show k < zl_nn up a by omega)
      have hcd : ¬ j_X2_isCard (nI d) = 0 := by rw [zr_isCard hd]; decide
      have hne : ¬ j_X2_cardAt vh1 vh2 (nI a) (nI k) = -1 := by rw [cd]; exact zs_nm1 d hd
      have c1 : ¬ j_X2_cards vh1 vh2 (nI a) ≤ nI k := by rw [eA]; exact nI_ge (by omega) (by omega)
      have kd : (j_X2_cardAt vh1 vh2 (nI a) (nI k)).toNatClampNeg = d := by rw [cd, nI_clamp (by omega)]
      have fa : fb_ct (fun j => decide (j_X2_reasonAgainst vdrawn vtr vled (nI a) vh1 vh2 (nI (j_X2_cardAt vh1 vh2 (nI a) (nI j)).toNatClampNeg) = 0)) (k + 1) = fb_ct (fun j => decide (j_X2_reasonAgainst vdrawn vtr vled (nI a) vh1 vh2 (nI (j_X2_cardAt vh1 vh2 (nI a) (nI j)).toNatClampNeg) = 0)) k + (if j_X2_reasonAgainst vdrawn vtr vled (nI a) vh1 vh2 (nI d) = 0 then 1 else 0) := by
        rw [fb_ct_succ, kd]
        by_cases q : j_X2_reasonAgainst vdrawn vtr vled (nI a) vh1 vh2 (nI d) = 0
        · simp [q]
        · simp [q]
      have fm : fb_ct (fun j => decide (40 ≤ (j_X2_cardAt vh1 vh2 (nI a) (nI j)).toNatClampNeg)) (k + 1) = fb_ct (fun j => decide (40 ≤ (j_X2_cardAt vh1 vh2 (nI a) (nI j)).toNatClampNeg)) k + (if 40 ≤ d then 1 else 0) := by
        rw [fb_ct_succ, kd]
        by_cases q : 40 ≤ d
        · simp [q]
        · simp [q]
      have hw := pq_why (vtr := vtr) ha g1 g2 lo hE hdr hd ud
      have d39 : nI d ≤ 39 ↔ ¬ 40 ≤ d := by
        have := nI_leI (a := d) (b := 39) (by omega) (by omega)
        rw [show (39 : Int32) = nI 39 from rfl, this]
        omega
      rcases hw with hq | ⟨hq, h40, l1⟩ | ⟨hq, e15, l9, hl9, l1⟩
      · skip
        have hwr : j_X2_whyNot vdrawn vtr vled vmov vh1 vh2 (nI d) = 0 := by rw [hm]; exact hq
        have e2 : nI (fb_ct (fun j => decide (j_X2_reasonAgainst vdrawn vtr vled (nI a) vh1 vh2 (nI (j_X2_cardAt vh1 vh2 (nI a) (nI j)).toNatClampNeg) = 0)) k) + 1 = nI (fb_ct (fun j => decide (j_X2_reasonAgainst vdrawn vtr vled (nI a) vh1 vh2 (nI (j_X2_cardAt vh1 vh2 (nI a) (nI j)).toNatClampNeg) = 0)) (k + 1)) := by
          rw [nI_1, fa, if_pos hq]
        by_cases m40 : 40 ≤ d
        · have c39 : ¬ nI d ≤ 39 := fun z => (d39.mp z) m40
          have e3 : nI (fb_ct (fun j => decide (40 ≤ (j_X2_cardAt vh1 vh2 (nI a) (nI j)).toNatClampNeg)) k) + 1 = nI (fb_ct (fun j => decide (40 ≤ (j_X2_cardAt vh1 vh2 (nI a) (nI j)).toNatClampNeg)) (k + 1)) := by
            rw [nI_1, fm, if_pos m40]
          refine lv_iload hx hb dL_isFree_12 (lv_at hl 0 rfl) ?_
          refine lv_aload_n hx hb dL_isFree_14 rfl (lv_at hl 4 rfl) ?_
          refine lv_iload_n hx hb dL_isFree_15 rfl (lv_at hl 3 rfl) ?_
          refine jr_callV (n := 1) (C := RX2) (As := [.int (nI a)]) (rest := [.int (nI k)]) S (c_X2_cards a0 aR aF aG cI vrow vdrawn vtr vled vmov vw1 vw2 veo veb vh1 vt1 vp1 vk1 vg1 vh2 vt2 vp2 vk2 vg2 (nI a) hAa) gL_isFree_X2_cards rfl (by decide +kernel) rfl ⟨⟨rfl, rfl⟩, ⟨Nat.le_of_ble_eq_true rfl, Nat.le_of_ble_eq_true rfl⟩, Nat.le_of_ble_eq_true rfl, Nat.le_of_ble_eq_true rfl⟩ hP hK hN [0, 1, 2, 3] [0] rfl rfl 0 2 rfl rfl rfl (lv_nil hl) rfl (Nat.le_of_ble_eq_true rfl) dL_isFree_16 ?_
          refine lv_icmp_ge (tgt := 132) hx hb dL_isFree_19 (by decide) (fun c_ => absurd c_ c1) (fun _ => ?_)
          refine lv_aload_n hx hb dL_isFree_22 rfl (lv_at hl 4 rfl) ?_
          refine lv_iload_n hx hb dL_isFree_23 rfl (lv_at hl 3 rfl) ?_
          refine lv_iload hx hb dL_isFree_24 (lv_at hl 0 rfl) ?_
          refine jr_callV (n := 2) (C := RX2) (As := [.int (nI a), .int (nI k)]) (rest := []) S (c_X2_cardAt a0 aR aF aG cI vrow vdrawn vtr vled vmov vw1 vw2 veo veb vh1 vt1 vp1 vk1 vg1 vh2 vt2 vp2 vk2 vg2 (nI a) (nI k) hne hAa) gL_isFree_X2_cardAt rfl (by decide +kernel) rfl ⟨⟨rfl, rfl⟩, ⟨Nat.le_of_ble_eq_true rfl, Nat.le_of_ble_eq_true rfl⟩, Nat.le_of_ble_eq_true rfl, Nat.le_of_ble_eq_true rfl⟩ hP hK hN [0, 1, 2, 3] [0] rfl rfl 0 2 rfl rfl rfl (lv_nil hl) rfl (Nat.le_of_ble_eq_true rfl) dL_isFree_26 ?_
          rw [cd]
          refine lv_istore (lv' := [(5, .int (nI d)), (4, .int (nI k)), (2, .int (nI (fb_ct (fun j => decide (j_X2_reasonAgainst vdrawn vtr vled (nI a) vh1 vh2 (nI (j_X2_cardAt vh1 vh2 (nI a) (nI j)).toNatClampNeg) = 0)) k))), (3, .int (nI (fb_ct (fun j => decide (40 ≤ (j_X2_cardAt vh1 vh2 (nI a) (nI j)).toNatClampNeg)) k))), (1, .int (nI a)), (0, .ref a0)]) hx hb dL_isFree_29 hl (by decide) rfl (fun ls hl => ?_)
          refine lv_aload_n hx hb dL_isFree_31 rfl (lv_at hl 5 rfl) ?_
          refine lv_iload hx hb dL_isFree_32 (lv_at hl 0 rfl) ?_
          refine jr_callV (n := 1) (C := RX2) (As := [.int (nI d)]) (rest := []) S (c_X2_whyNot a0 aR aF aG cI vrow vdrawn vtr vled vmov vw1 vw2 veo veb vh1 vt1 vp1 vk1 vg1 vh2 vt2 vp2 vk2 vg2 (nI d) hcd) gL_isFree_X2_whyNot rfl (by decide +kernel) rfl ⟨⟨rfl, rfl⟩, ⟨Nat.le_of_ble_eq_true rfl, Nat.le_of_ble_eq_true rfl⟩, Nat.le_of_ble_eq_true rfl, Nat.le_of_ble_eq_true rfl⟩ hP hK hN [0, 1, 2, 3] [0] rfl rfl 0 2 rfl rfl rfl (lv_nil hl) rfl (Nat.le_of_ble_eq_true rfl) dL_isFree_34 ?_
          rw [hwr]
          refine lv_istore (lv' := [(6, .int 0), (5, .int (nI d)), (4, .int (nI k)), (2, .int (nI (fb_ct (fun j => decide (j_X2_reasonAgainst vdrawn vtr vled (nI a) vh1 vh2 (nI (j_X2_cardAt vh1 vh2 (nI a) (nI j)).toNatClampNeg) = 0)) k))), (3, .int (nI (fb_ct (fun j => decide (40 ≤ (j_X2_cardAt vh1 vh2 (nI a) (nI j)).toNatClampNeg)) k))), (1, .int (nI a)), (0, .ref a0)]) hx hb dL_isFree_37 hl (by decide) rfl (fun ls hl => ?_)
          refine lv_iload_n hx hb dL_isFree_39 rfl (lv_at hl 4 rfl) ?_
          refine lv_iload hx hb dL_isFree_40 (lv_at hl 1 rfl) ?_
          refine lv_bipush (v := 39) hx hb dL_isFree_42 (by decide) ?_
          refine lv_icmp_le (tgt := 51) hx hb dL_isFree_44 (by decide) (fun c_ => absurd c_ c39) (fun _ => ?_)
          refine lv_iconst (v := 1) hx hb dL_isFree_47 (by decide) ?_
          refine lv_goto (tgt := 52) hx hb dL_isFree_48 (by decide) ?_
          refine lv_iadd hx hb dL_isFree_52 ?_
          rw [e3]
          refine lv_istore_n (lv' := [(3, .int (nI (fb_ct (fun j => decide (40 ≤ (j_X2_cardAt vh1 vh2 (nI a) (nI j)).toNatClampNeg)) (k + 1)))), (6, .int 0), (5, .int (nI d)), (4, .int (nI k)), (2, .int (nI (fb_ct (fun j => decide (j_X2_reasonAgainst vdrawn vtr vled (nI a) vh1 vh2 (nI (j_X2_cardAt vh1 vh2 (nI a) (nI j)).toNatClampNeg) = 0)) k))), (1, .int (nI a)), (0, .ref a0)]) hx hb dL_isFree_53 rfl hl (by decide) rfl (fun ls hl => ?_)
          refine lv_iload_n hx hb dL_isFree_54 rfl (lv_at hl 4 rfl) ?_
          refine lv_iload hx hb dL_isFree_55 (lv_at hl 1 rfl) ?_
          refine lv_if_ne (tgt := 64) hx hb dL_isFree_57 (by decide) (fun c_ => absurd (by decide) c_) (fun _ => ?_)
          refine lv_iconst (v := 1) hx hb dL_isFree_60 (by decide) ?_
          refine lv_goto (tgt := 65) hx hb dL_isFree_61 (by decide) ?_
          refine lv_iadd hx hb dL_isFree_65 ?_
          rw [e2]
          refine lv_istore_n (lv' := [(2, .int (nI (fb_ct (fun j => decide (j_X2_reasonAgainst vdrawn vtr vled (nI a) vh1 vh2 (nI (j_X2_cardAt vh1 vh2 (nI a) (nI j)).toNatClampNeg) = 0)) (k + 1)))), (3, .int (nI (fb_ct (fun j => decide (40 ≤ (j_X2_cardAt vh1 vh2 (nI a) (nI j)).toNatClampNeg)) (k + 1)))), (6, .int 0), (5, .int (nI d)), (4, .int (nI k)), (1, .int (nI a)), (0, .ref a0)]) hx hb dL_isFree_66 rfl hl (by decide) rfl (fun ls hl => ?_)
          refine lv_iload hx hb dL_isFree_67 (lv_at hl 2 rfl) ?_
          refine lv_iconst (v := 4) hx hb dL_isFree_69 (by decide) ?_
          refine lv_icmp_eq (tgt := 79) hx hb dL_isFree_70 (by decide) (fun c_ => absurd c_ (by decide)) (fun _ => ?_)
          refine lv_iload hx hb dL_isFree_73 (lv_at hl 2 rfl) ?_
          refine lv_iconst (v := 5) hx hb dL_isFree_75 (by decide) ?_
          refine lv_icmp_ne (tgt := 104) hx hb dL_isFree_76 (by decide) (fun _ => ?_) (fun c_ => absurd c_ (by decide))
          refine lv_iload hx hb dL_isFree_104 (lv_at hl 2 rfl) ?_
          refine lv_iconst (v := 3) hx hb dL_isFree_106 (by decide) ?_
          refine lv_icmp_ne (tgt := 126) hx hb dL_isFree_107 (by decide) (fun _ => ?_) (fun c_ => absurd c_ (by decide))
          refine lv_iinc (v := nI (k + 1)) (lv' := [(4, .int (nI (k + 1))), (2, .int (nI (fb_ct (fun j => decide (j_X2_reasonAgainst vdrawn vtr vled (nI a) vh1 vh2 (nI (j_X2_cardAt vh1 vh2 (nI a) (nI j)).toNatClampNeg) = 0)) (k + 1)))), (3, .int (nI (fb_ct (fun j => decide (40 ≤ (j_X2_cardAt vh1 vh2 (nI a) (nI j)).toNatClampNeg)) (k + 1)))), (6, .int 0), (5, .int (nI d)), (1, .int (nI a)), (0, .ref a0)]) hx hb dL_isFree_126 hl (k := 4) rfl (nI_1 k) (by decide) rfl (fun ls hl => ?_)
          refine lv_goto (tgt := 12) hx hb dL_isFree_129 (by decide) ?_
          exact ih (k + 1) (by omega) ls (lv_sub hl [0, 1, 2, 5, 6] rfl)
        · have c39 : nI d ≤ 39 := d39.mpr m40
          have e3 : nI (fb_ct (fun j => decide (40 ≤ (j_X2_cardAt vh1 vh2 (nI a) (nI j)).toNatClampNeg)) k) + 0 = nI (fb_ct (fun j => decide (40 ≤ (j_X2_cardAt vh1 vh2 (nI a) (nI j)).toNatClampNeg)) (k + 1)) := by
            rw [Int32.add_zero, fm, if_neg m40]; rfl
          refine lv_iload hx hb dL_isFree_12 (lv_at hl 0 rfl) ?_
          refine lv_aload_n hx hb dL_isFree_14 rfl (lv_at hl 4 rfl) ?_
          refine lv_iload_n hx hb dL_isFree_15 rfl (lv_at hl 3 rfl) ?_
          refine jr_callV (n := 1) (C := RX2) (As := [.int (nI a)]) (rest := [.int (nI k)]) S (c_X2_cards a0 aR aF aG cI vrow vdrawn vtr vled vmov vw1 vw2 veo veb vh1 vt1 vp1 vk1 vg1 vh2 vt2 vp2 vk2 vg2 (nI a) hAa) gL_isFree_X2_cards rfl (by decide +kernel) rfl ⟨⟨rfl, rfl⟩, ⟨Nat.le_of_ble_eq_true rfl, Nat.le_of_ble_eq_true rfl⟩, Nat.le_of_ble_eq_true rfl, Nat.le_of_ble_eq_true rfl⟩ hP hK hN [0, 1, 2, 3] [0] rfl rfl 0 2 rfl rfl rfl (lv_nil hl) rfl (Nat.le_of_ble_eq_true rfl) dL_isFree_16 ?_
          refine lv_icmp_ge (tgt := 132) hx hb dL_isFree_19 (by decide) (fun c_ => absurd c_ c1) (fun _ => ?_)
          refine lv_aload_n hx hb dL_isFree_22 rfl (lv_at hl 4 rfl) ?_
          refine lv_iload_n hx hb dL_isFree_23 rfl (lv_at hl 3 rfl) ?_
          refine lv_iload hx hb dL_isFree_24 (lv_at hl 0 rfl) ?_
          refine jr_callV (n := 2) (C := RX2) (As := [.int (nI a), .int (nI k)]) (rest := []) S (c_X2_cardAt a0 aR aF aG cI vrow vdrawn vtr vled vmov vw1 vw2 veo veb vh1 vt1 vp1 vk1 vg1 vh2 vt2 vp2 vk2 vg2 (nI a) (nI k) hne hAa) gL_isFree_X2_cardAt rfl (by decide +kernel) rfl ⟨⟨rfl, rfl⟩, ⟨Nat.le_of_ble_eq_true rfl, Nat.le_of_ble_eq_true rfl⟩, Nat.le_of_ble_eq_true rfl, Nat.le_of_ble_eq_true rfl⟩ hP hK hN [0, 1, 2, 3] [0] rfl rfl 0 2 rfl rfl rfl (lv_nil hl) rfl (Nat.le_of_ble_eq_true rfl) dL_isFree_26 ?_
          rw [cd]
          refine lv_istore (lv' := [(5, .int (nI d)), (4, .int (nI k)), (2, .int (nI (fb_ct (fun j => decide (j_X2_reasonAgainst vdrawn vtr vled (nI a) vh1 vh2 (nI (j_X2_cardAt vh1 vh2 (nI a) (nI j)).toNatClampNeg) = 0)) k))), (3, .int (nI (fb_ct (fun j => decide (40 ≤ (j_X2_cardAt vh1 vh2 (nI a) (nI j)).toNatClampNeg)) k))), (1, .int (nI a)), (0, .ref a0)]) hx hb dL_isFree_29 hl (by decide) rfl (fun ls hl => ?_)
          refine lv_aload_n hx hb dL_isFree_31 rfl (lv_at hl 5 rfl) ?_
          refine lv_iload hx hb dL_isFree_32 (lv_at hl 0 rfl) ?_
          refine jr_callV (n := 1) (C := RX2) (As := [.int (nI d)]) (rest := []) S (c_X2_whyNot a0 aR aF aG cI vrow vdrawn vtr vled vmov vw1 vw2 veo veb vh1 vt1 vp1 vk1 vg1 vh2 vt2 vp2 vk2 vg2 (nI d) hcd) gL_isFree_X2_whyNot rfl (by decide +kernel) rfl ⟨⟨rfl, rfl⟩, ⟨Nat.le_of_ble_eq_true rfl, Nat.le_of_ble_eq_true rfl⟩, Nat.le_of_ble_eq_true rfl, Nat.le_of_ble_eq_true rfl⟩ hP hK hN [0, 1, 2, 3] [0] rfl rfl 0 2 rfl rfl rfl (lv_nil hl) rfl (Nat.le_of_ble_eq_true rfl) dL_isFree_34 ?_
          rw [hwr]
          refine lv_istore (lv' := [(6, .int 0), (5, .int (nI d)), (4, .int (nI k)), (2, .int (nI (fb_ct (fun j => decide (j_X2_reasonAgainst vdrawn vtr vled (nI a) vh1 vh2 (nI (j_X2_cardAt vh1 vh2 (nI a) (nI j)).toNatClampNeg) = 0)) k))), (3, .int (nI (fb_ct (fun j => decide (40 ≤ (j_X2_cardAt vh1 vh2 (nI a) (nI j)).toNatClampNeg)) k))), (1, .int (nI a)), (0, .ref a0)]) hx hb dL_isFree_37 hl (by decide) rfl (fun ls hl => ?_)
          refine lv_iload_n hx hb dL_isFree_39 rfl (lv_at hl 4 rfl) ?_
          refine lv_iload hx hb dL_isFree_40 (lv_at hl 1 rfl) ?_
          refine lv_bipush (v := 39) hx hb dL_isFree_42 (by decide) ?_
          refine lv_icmp_le (tgt := 51) hx hb dL_isFree_44 (by decide) (fun _ => ?_) (fun c_ => absurd c39 c_)
          refine lv_iconst (v := 0) hx hb dL_isFree_51 (by decide) ?_
          refine lv_iadd hx hb dL_isFree_52 ?_
          rw [e3]
          refine lv_istore_n (lv' := [(3, .int (nI (fb_ct (fun j => decide (40 ≤ (j_X2_cardAt vh1 vh2 (nI a) (nI j)).toNatClampNeg)) (k + 1)))), (6, .int 0), (5, .int (nI d)), (4, .int (nI k)), (2, .int (nI (fb_ct (fun j => decide (j_X2_reasonAgainst vdrawn vtr vled (nI a) vh1 vh2 (nI (j_X2_cardAt vh1 vh2 (nI a) (nI j)).toNatClampNeg) = 0)) k))), (1, .int (nI a)), (0, .ref a0)]) hx hb dL_isFree_53 rfl hl (by decide) rfl (fun ls hl => ?_)
          refine lv_iload_n hx hb dL_isFree_54 rfl (lv_at hl 4 rfl) ?_
          refine lv_iload hx hb dL_isFree_55 (lv_at hl 1 rfl) ?_
          refine lv_if_ne (tgt := 64) hx hb dL_isFree_57 (by decide) (fun c_ => absurd (by decide) c_) (fun _ => ?_)
          refine lv_iconst (v := 1) hx hb dL_isFree_60 (by decide) ?_
          refine lv_goto (tgt := 65) hx hb dL_isFree_61 (by decide) ?_
          refine lv_iadd hx hb dL_isFree_65 ?_
          rw [e2]
          refine lv_istore_n (lv' := [(2, .int (nI (fb_ct (fun j => decide (j_X2_reasonAgainst vdrawn vtr vled (nI a) vh1 vh2 (nI (j_X2_cardAt vh1 vh2 (nI a) (nI j)).toNatClampNeg) = 0)) (k + 1)))), (3, .int (nI (fb_ct (fun j => decide (40 ≤ (j_X2_cardAt vh1 vh2 (nI a) (nI j)).toNatClampNeg)) (k + 1)))), (6, .int 0), (5, .int (nI d)), (4, .int (nI k)), (1, .int (nI a)), (0, .ref a0)]) hx hb dL_isFree_66 rfl hl (by decide) rfl (fun ls hl => ?_)
          refine lv_iload hx hb dL_isFree_67 (lv_at hl 2 rfl) ?_
          refine lv_iconst (v := 4) hx hb dL_isFree_69 (by decide) ?_
          refine lv_icmp_eq (tgt := 79) hx hb dL_isFree_70 (by decide) (fun c_ => absurd c_ (by decide)) (fun _ => ?_)
          refine lv_iload hx hb dL_isFree_73 (lv_at hl 2 rfl) ?_
          refine lv_iconst (v := 5) hx hb dL_isFree_75 (by decide) ?_
          refine lv_icmp_ne (tgt := 104) hx hb dL_isFree_76 (by decide) (fun _ => ?_) (fun c_ => absurd c_ (by decide))
          refine lv_iload hx hb dL_isFree_104 (lv_at hl 2 rfl) ?_
          refine lv_iconst (v := 3) hx hb dL_isFree_106 (by decide) ?_
          refine lv_icmp_ne (tgt := 126) hx hb dL_isFree_107 (by decide) (fun _ => ?_) (fun c_ => absurd c_ (by decide))
          refine lv_iinc (v := nI (k + 1)) (lv' := [(4, .int (nI (k + 1))), (2, .int (nI (fb_ct (fun j => decide (j_X2_reasonAgainst vdrawn vtr vled (nI a) vh1 vh2 (nI (j_X2_cardAt vh1 vh2 (nI a) (nI j)).toNatClampNeg) = 0)) (k + 1)))), (3, .int (nI (fb_ct (fun j => decide (40 ≤ (j_X2_cardAt vh1 vh2 (nI a) (nI j)).toNatClampNeg)) (k + 1)))), (6, .int 0), (5, .int (nI d)), (1, .int (nI a)), (0, .ref a0)]) hx hb dL_isFree_126 hl (k := 4) rfl (nI_1 k) (by decide) rfl (fun ls hl => ?_)
          refine lv_goto (tgt := 12) hx hb dL_isFree_129 (by decide) ?_
          exact ih (k + 1) (by omega) ls (lv_sub hl [0, 1, 2, 5, 6] rfl)
      · have c40 : ¬ nI d < 40 := nI_nlt (a := d) (b := 40) h40 (by omega)
        have c0 : j_X2_led vled < 0 := by rw [l1]; decide
        have hwr : j_X2_whyNot vdrawn vtr vled vmov vh1 vh2 (nI d) = 3 := by rw [hm]; exact hq
        have e2 : nI (fb_ct (fun j => decide (j_X2_reasonAgainst vdrawn vtr vled (nI a) vh1 vh2 (nI (j_X2_cardAt vh1 vh2 (nI a) (nI j)).toNatClampNeg) = 0)) k) + 0 = nI (fb_ct (fun j => decide (j_X2_reasonAgainst vdrawn vtr vled (nI a) vh1 vh2 (nI (j_X2_cardAt vh1 vh2 (nI a) (nI j)).toNatClampNeg) = 0)) (k + 1)) := by
          rw [Int32.add_zero, fa, if_neg (by rw [hq]; decide)]; rfl
        by_cases m40 : 40 ≤ d
        · have c39 : ¬ nI d ≤ 39 := fun z => (d39.mp z) m40
          have e3 : nI (fb_ct (fun j => decide (40 ≤ (j_X2_cardAt vh1 vh2 (nI a) (nI j)).toNatClampNeg)) k) + 1 = nI (fb_ct (fun j => decide (40 ≤ (j_X2_cardAt vh1 vh2 (nI a) (nI j)).toNatClampNeg)) (k + 1)) := by
            rw [nI_1, fm, if_pos m40]
          refine lv_iload hx hb dL_isFree_12 (lv_at hl 0 rfl) ?_
          refine lv_aload_n hx hb dL_isFree_14 rfl (lv_at hl 4 rfl) ?_
          refine lv_iload_n hx hb dL_isFree_15 rfl (lv_at hl 3 rfl) ?_
          refine jr_callV (n := 1) (C := RX2) (As := [.int (nI a)]) (rest := [.int (nI k)]) S (c_X2_cards a0 aR aF aG cI vrow vdrawn vtr vled vmov vw1 vw2 veo veb vh1 vt1 vp1 vk1 vg1 vh2 vt2 vp2 vk2 vg2 (nI a) hAa) gL_isFree_X2_cards rfl (by decide +kernel) rfl ⟨⟨rfl, rfl⟩, ⟨Nat.le_of_ble_eq_true rfl, Nat.le_of_ble_eq_true rfl⟩, Nat.le_of_ble_eq_true rfl, Nat.le_of_ble_eq_true rfl⟩ hP hK hN [0, 1, 2, 3] [0] rfl rfl 0 2 rfl rfl rfl (lv_nil hl) rfl (Nat.le_of_ble_eq_true rfl) dL_isFree_16 ?_
          refine lv_icmp_ge (tgt := 132) hx hb dL_isFree_19 (by decide) (fun c_ => absurd c_ c1) (fun _ => ?_)
          refine lv_aload_n hx hb dL_isFree_22 rfl (lv_at hl 4 rfl) ?_
          refine lv_iload_n hx hb dL_isFree_23 rfl (lv_at hl 3 rfl) ?_
          refine lv_iload hx hb dL_isFree_24 (lv_at hl 0 rfl) ?_
          refine jr_callV (n := 2) (C := RX2) (As := [.int (nI a), .int (nI k)]) (rest := []) S (c_X2_cardAt a0 aR aF aG cI vrow vdrawn vtr vled vmov vw1 vw2 veo veb vh1 vt1 vp1 vk1 vg1 vh2 vt2 vp2 vk2 vg2 (nI a) (nI k) hne hAa) gL_isFree_X2_cardAt rfl (by decide +kernel) rfl ⟨⟨rfl, rfl⟩, ⟨Nat.le_of_ble_eq_true rfl, Nat.le_of_ble_eq_true rfl⟩, Nat.le_of_ble_eq_true rfl, Nat.le_of_ble_eq_true rfl⟩ hP hK hN [0, 1, 2, 3] [0] rfl rfl 0 2 rfl rfl rfl (lv_nil hl) rfl (Nat.le_of_ble_eq_true rfl) dL_isFree_26 ?_
          rw [cd]
          refine lv_istore (lv' := [(5, .int (nI d)), (4, .int (nI k)), (2, .int (nI (fb_ct (fun j => decide (j_X2_reasonAgainst vdrawn vtr vled (nI a) vh1 vh2 (nI (j_X2_cardAt vh1 vh2 (nI a) (nI j)).toNatClampNeg) = 0)) k))), (3, .int (nI (fb_ct (fun j => decide (40 ≤ (j_X2_cardAt vh1 vh2 (nI a) (nI j)).toNatClampNeg)) k))), (1, .int (nI a)), (0, .ref a0)]) hx hb dL_isFree_29 hl (by decide) rfl (fun ls hl => ?_)
          refine lv_aload_n hx hb dL_isFree_31 rfl (lv_at hl 5 rfl) ?_
          refine lv_iload hx hb dL_isFree_32 (lv_at hl 0 rfl) ?_
          refine jr_callV (n := 1) (C := RX2) (As := [.int (nI d)]) (rest := []) S (c_X2_whyNot a0 aR aF aG cI vrow vdrawn vtr vled vmov vw1 vw2 veo veb vh1 vt1 vp1 vk1 vg1 vh2 vt2 vp2 vk2 vg2 (nI d) hcd) gL_isFree_X2_whyNot rfl (by decide +kernel) rfl ⟨⟨rfl, rfl⟩, ⟨Nat.le_of_ble_eq_true rfl, Nat.le_of_ble_eq_true rfl⟩, Nat.le_of_ble_eq_true rfl, Nat.le_of_ble_eq_true rfl⟩ hP hK hN [0, 1, 2, 3] [0] rfl rfl 0 2 rfl rfl rfl (lv_nil hl) rfl (Nat.le_of_ble_eq_true rfl) dL_isFree_34 ?_
          rw [hwr]
          refine lv_istore (lv' := [(6, .int 3), (5, .int (nI d)), (4, .int (nI k)), (2, .int (nI (fb_ct (fun j => decide (j_X2_reasonAgainst vdrawn vtr vled (nI a) vh1 vh2 (nI (j_X2_cardAt vh1 vh2 (nI a) (nI j)).toNatClampNeg) = 0)) k))), (3, .int (nI (fb_ct (fun j => decide (40 ≤ (j_X2_cardAt vh1 vh2 (nI a) (nI j)).toNatClampNeg)) k))), (1, .int (nI a)), (0, .ref a0)]) hx hb dL_isFree_37 hl (by decide) rfl (fun ls hl => ?_)
          refine lv_iload_n hx hb dL_isFree_39 rfl (lv_at hl 4 rfl) ?_
          refine lv_iload hx hb dL_isFree_40 (lv_at hl 1 rfl) ?_
          refine lv_bipush (v := 39) hx hb dL_isFree_42 (by decide) ?_
          refine lv_icmp_le (tgt := 51) hx hb dL_isFree_44 (by decide) (fun c_ => absurd c_ c39) (fun _ => ?_)
          refine lv_iconst (v := 1) hx hb dL_isFree_47 (by decide) ?_
          refine lv_goto (tgt := 52) hx hb dL_isFree_48 (by decide) ?_
          refine lv_iadd hx hb dL_isFree_52 ?_
          rw [e3]
          refine lv_istore_n (lv' := [(3, .int (nI (fb_ct (fun j => decide (40 ≤ (j_X2_cardAt vh1 vh2 (nI a) (nI j)).toNatClampNeg)) (k + 1)))), (6, .int 3), (5, .int (nI d)), (4, .int (nI k)), (2, .int (nI (fb_ct (fun j => decide (j_X2_reasonAgainst vdrawn vtr vled (nI a) vh1 vh2 (nI (j_X2_cardAt vh1 vh2 (nI a) (nI j)).toNatClampNeg) = 0)) k))), (1, .int (nI a)), (0, .ref a0)]) hx hb dL_isFree_53 rfl hl (by decide) rfl (fun ls hl => ?_)
          refine lv_iload_n hx hb dL_isFree_54 rfl (lv_at hl 4 rfl) ?_
          refine lv_iload hx hb dL_isFree_55 (lv_at hl 1 rfl) ?_
          refine lv_if_ne (tgt := 64) hx hb dL_isFree_57 (by decide) (fun _ => ?_) (fun c_ => absurd c_ (by decide))
          refine lv_iconst (v := 0) hx hb dL_isFree_64 (by decide) ?_
          refine lv_iadd hx hb dL_isFree_65 ?_
          rw [e2]
          refine lv_istore_n (lv' := [(2, .int (nI (fb_ct (fun j => decide (j_X2_reasonAgainst vdrawn vtr vled (nI a) vh1 vh2 (nI (j_X2_cardAt vh1 vh2 (nI a) (nI j)).toNatClampNeg) = 0)) (k + 1)))), (3, .int (nI (fb_ct (fun j => decide (40 ≤ (j_X2_cardAt vh1 vh2 (nI a) (nI j)).toNatClampNeg)) (k + 1)))), (6, .int 3), (5, .int (nI d)), (4, .int (nI k)), (1, .int (nI a)), (0, .ref a0)]) hx hb dL_isFree_66 rfl hl (by decide) rfl (fun ls hl => ?_)
          refine lv_iload hx hb dL_isFree_67 (lv_at hl 2 rfl) ?_
          refine lv_iconst (v := 4) hx hb dL_isFree_69 (by decide) ?_
          refine lv_icmp_eq (tgt := 79) hx hb dL_isFree_70 (by decide) (fun c_ => absurd c_ (by decide)) (fun _ => ?_)
          refine lv_iload hx hb dL_isFree_73 (lv_at hl 2 rfl) ?_
          refine lv_iconst (v := 5) hx hb dL_isFree_75 (by decide) ?_
          refine lv_icmp_ne (tgt := 104) hx hb dL_isFree_76 (by decide) (fun _ => ?_) (fun c_ => absurd c_ (by decide))
          refine lv_iload hx hb dL_isFree_104 (lv_at hl 2 rfl) ?_
          refine lv_iconst (v := 3) hx hb dL_isFree_106 (by decide) ?_
          refine lv_icmp_ne (tgt := 126) hx hb dL_isFree_107 (by decide) (fun c_ => absurd (by decide) c_) (fun _ => ?_)
          refine lv_iload hx hb dL_isFree_110 (lv_at hl 3 rfl) ?_
          refine lv_bipush (v := 40) hx hb dL_isFree_112 (by decide) ?_
          refine lv_icmp_lt (tgt := 124) hx hb dL_isFree_114 (by decide) (fun c_ => absurd c_ c40) (fun _ => ?_)
          refine lv_aload_n hx hb dL_isFree_117 rfl (lv_at hl 6 rfl) ?_
          refine jr_callV (n := 0) (C := RX2) (As := []) (rest := []) S (c_X2_led a0 aR aF aG cI vrow vdrawn vtr vled vmov vw1 vw2 veo veb vh1 vt1 vp1 vk1 vg1 vh2 vt2 vp2 vk2 vg2) gL_isFree_X2_led rfl (by decide +kernel) rfl ⟨⟨rfl, rfl⟩, ⟨Nat.le_of_ble_eq_true rfl, Nat.le_of_ble_eq_true rfl⟩, Nat.le_of_ble_eq_true rfl, Nat.le_of_ble_eq_true rfl⟩ hP hK hN [0, 1, 2, 3] [0] rfl rfl 0 2 rfl rfl rfl (lv_nil hl) rfl (Nat.le_of_ble_eq_true rfl) dL_isFree_118 ?_
          refine lv_if_lt (tgt := 126) hx hb dL_isFree_121 (by decide) (fun _ => ?_) (fun c_ => absurd c0 c_)
          refine lv_iinc (v := nI (k + 1)) (lv' := [(4, .int (nI (k + 1))), (2, .int (nI (fb_ct (fun j => decide (j_X2_reasonAgainst vdrawn vtr vled (nI a) vh1 vh2 (nI (j_X2_cardAt vh1 vh2 (nI a) (nI j)).toNatClampNeg) = 0)) (k + 1)))), (3, .int (nI (fb_ct (fun j => decide (40 ≤ (j_X2_cardAt vh1 vh2 (nI a) (nI j)).toNatClampNeg)) (k + 1)))), (6, .int 3), (5, .int (nI d)), (1, .int (nI a)), (0, .ref a0)]) hx hb dL_isFree_126 hl (k := 4) rfl (nI_1 k) (by decide) rfl (fun ls hl => ?_)
          refine lv_goto (tgt := 12) hx hb dL_isFree_129 (by decide) ?_
          exact ih (k + 1) (by omega) ls (lv_sub hl [0, 1, 2, 5, 6] rfl)
        · exact absurd h40 m40
      · have cp : ¬ 0 < j_X2_pile vdrawn := by rw [hpile, e15]; decide
        have c0 : ¬ j_X2_led vled < 0 := by rw [l1]; exact nI_pos (show l9 < 2 ^ 31 by omega)
        have c39b : j_X2_led vled ≤ 39 := by rw [l1]; exact nI_le (a := l9) (b := 39) (by omega) (by decide)
        rcases hq with hq | hq
        · skip
          have hwr : j_X2_whyNot vdrawn vtr vled vmov vh1 vh2 (nI d) = 4 := by rw [hm]; exact hq
          have e2 : nI (fb_ct (fun j => decide (j_X2_reasonAgainst vdrawn vtr vled (nI a) vh1 vh2 (nI (j_X2_cardAt vh1 vh2 (nI a) (nI j)).toNatClampNeg) = 0)) k) + 0 = nI (fb_ct (fun j => decide (j_X2_reasonAgainst vdrawn vtr vled (nI a) vh1 vh2 (nI (j_X2_cardAt vh1 vh2 (nI a) (nI j)).toNatClampNeg) = 0)) (k + 1)) := by
            rw [Int32.add_zero, fa, if_neg (by rw [hq]; decide)]; rfl
          by_cases m40 : 40 ≤ d
          · have c39 : ¬ nI d ≤ 39 := fun z => (d39.mp z) m40
            have e3 : nI (fb_ct (fun j => decide (40 ≤ (j_X2_cardAt vh1 vh2 (nI a) (nI j)).toNatClampNeg)) k) + 1 = nI (fb_ct (fun j => decide (40 ≤ (j_X2_cardAt vh1 vh2 (nI a) (nI j)).toNatClampNeg)) (k + 1)) := by
              rw [nI_1, fm, if_pos m40]
            refine lv_iload hx hb dL_isFree_12 (lv_at hl 0 rfl) ?_
            refine lv_aload_n hx hb dL_isFree_14 rfl (lv_at hl 4 rfl) ?_
            refine lv_iload_n hx hb dL_isFree_15 rfl (lv_at hl 3 rfl) ?_
            refine jr_callV (n := 1) (C := RX2) (As := [.int (nI a)]) (rest := [.int (nI k)]) S (c_X2_cards a0 aR aF aG cI vrow vdrawn vtr vled vmov vw1 vw2 veo veb vh1 vt1 vp1 vk1 vg1 vh2 vt2 vp2 vk2 vg2 (nI a) hAa) gL_isFree_X2_cards rfl (by decide +kernel) rfl ⟨⟨rfl, rfl⟩, ⟨Nat.le_of_ble_eq_true rfl, Nat.le_of_ble_eq_true rfl⟩, Nat.le_of_ble_eq_true rfl, Nat.le_of_ble_eq_true rfl⟩ hP hK hN [0, 1, 2, 3] [0] rfl rfl 0 2 rfl rfl rfl (lv_nil hl) rfl (Nat.le_of_ble_eq_true rfl) dL_isFree_16 ?_
            refine lv_icmp_ge (tgt := 132) hx hb dL_isFree_19 (by decide) (fun c_ => absurd c_ c1) (fun _ => ?_)
            refine lv_aload_n hx hb dL_isFree_22 rfl (lv_at hl 4 rfl) ?_
            refine lv_iload_n hx hb dL_isFree_23 rfl (lv_at hl 3 rfl) ?_
            refine lv_iload hx hb dL_isFree_24 (lv_at hl 0 rfl) ?_
            refine jr_callV (n := 2) (C := RX2) (As := [.int (nI a), .int (nI k)]) (rest := []) S (c_X2_cardAt a0 aR aF aG cI vrow vdrawn vtr vled vmov vw1 vw2 veo veb vh1 vt1 vp1 vk1 vg1 vh2 vt2 vp2 vk2 vg2 (nI a) (nI k) hne hAa) gL_isFree_X2_cardAt rfl (by decide +kernel) rfl ⟨⟨rfl, rfl⟩, ⟨Nat.le_of_ble_eq_true rfl, Nat.le_of_ble_eq_true rfl⟩, Nat.le_of_ble_eq_true rfl, Nat.le_of_ble_eq_true rfl⟩ hP hK hN [0, 1, 2, 3] [0] rfl rfl 0 2 rfl rfl rfl (lv_nil hl) rfl (Nat.le_of_ble_eq_true rfl) dL_isFree_26 ?_
            rw [cd]
            refine lv_istore (lv' := [(5, .int (nI d)), (4, .int (nI k)), (2, .int (nI (fb_ct (fun j => decide (j_X2_reasonAgainst vdrawn vtr vled (nI a) vh1 vh2 (nI (j_X2_cardAt vh1 vh2 (nI a) (nI j)).toNatClampNeg) = 0)) k))), (3, .int (nI (fb_ct (fun j => decide (40 ≤ (j_X2_cardAt vh1 vh2 (nI a) (nI j)).toNatClampNeg)) k))), (1, .int (nI a)), (0, .ref a0)]) hx hb dL_isFree_29 hl (by decide) rfl (fun ls hl => ?_)
            refine lv_aload_n hx hb dL_isFree_31 rfl (lv_at hl 5 rfl) ?_
            refine lv_iload hx hb dL_isFree_32 (lv_at hl 0 rfl) ?_
            refine jr_callV (n := 1) (C := RX2) (As := [.int (nI d)]) (rest := []) S (c_X2_whyNot a0 aR aF aG cI vrow vdrawn vtr vled vmov vw1 vw2 veo veb vh1 vt1 vp1 vk1 vg1 vh2 vt2 vp2 vk2 vg2 (nI d) hcd) gL_isFree_X2_whyNot rfl (by decide +kernel) rfl ⟨⟨rfl, rfl⟩, ⟨Nat.le_of_ble_eq_true rfl, Nat.le_of_ble_eq_true rfl⟩, Nat.le_of_ble_eq_true rfl, Nat.le_of_ble_eq_true rfl⟩ hP hK hN [0, 1, 2, 3] [0] rfl rfl 0 2 rfl rfl rfl (lv_nil hl) rfl (Nat.le_of_ble_eq_true rfl) dL_isFree_34 ?_
            rw [hwr]
            refine lv_istore (lv' := [(6, .int 4), (5, .int (nI d)), (4, .int (nI k)), (2, .int (nI (fb_ct (fun j => decide (j_X2_reasonAgainst vdrawn vtr vled (nI a) vh1 vh2 (nI (j_X2_cardAt vh1 vh2 (nI a) (nI j)).toNatClampNeg) = 0)) k))), (3, .int (nI (fb_ct (fun j => decide (40 ≤ (j_X2_cardAt vh1 vh2 (nI a) (nI j)).toNatClampNeg)) k))), (1, .int (nI a)), (0, .ref a0)]) hx hb dL_isFree_37 hl (by decide) rfl (fun ls hl => ?_)
            refine lv_iload_n hx hb dL_isFree_39 rfl (lv_at hl 4 rfl) ?_
            refine lv_iload hx hb dL_isFree_40 (lv_at hl 1 rfl) ?_
            refine lv_bipush (v := 39) hx hb dL_isFree_42 (by decide) ?_
            refine lv_icmp_le (tgt := 51) hx hb dL_isFree_44 (by decide) (fun c_ => absurd c_ c39) (fun _ => ?_)
            refine lv_iconst (v := 1) hx hb dL_isFree_47 (by decide) ?_
            refine lv_goto (tgt := 52) hx hb dL_isFree_48 (by decide) ?_
            refine lv_iadd hx hb dL_isFree_52 ?_
            rw [e3]
            refine lv_istore_n (lv' := [(3, .int (nI (fb_ct (fun j => decide (40 ≤ (j_X2_cardAt vh1 vh2 (nI a) (nI j)).toNatClampNeg)) (k + 1)))), (6, .int 4), (5, .int (nI d)), (4, .int (nI k)), (2, .int (nI (fb_ct (fun j => decide (j_X2_reasonAgainst vdrawn vtr vled (nI a) vh1 vh2 (nI (j_X2_cardAt vh1 vh2 (nI a) (nI j)).toNatClampNeg) = 0)) k))), (1, .int (nI a)), (0, .ref a0)]) hx hb dL_isFree_53 rfl hl (by decide) rfl (fun ls hl => ?_)
            refine lv_iload_n hx hb dL_isFree_54 rfl (lv_at hl 4 rfl) ?_
            refine lv_iload hx hb dL_isFree_55 (lv_at hl 1 rfl) ?_
            refine lv_if_ne (tgt := 64) hx hb dL_isFree_57 (by decide) (fun _ => ?_) (fun c_ => absurd c_ (by decide))
            refine lv_iconst (v := 0) hx hb dL_isFree_64 (by decide) ?_
            refine lv_iadd hx hb dL_isFree_65 ?_
            rw [e2]
            refine lv_istore_n (lv' := [(2, .int (nI (fb_ct (fun j => decide (j_X2_reasonAgainst vdrawn vtr vled (nI a) vh1 vh2 (nI (j_X2_cardAt vh1 vh2 (nI a) (nI j)).toNatClampNeg) = 0)) (k + 1)))), (3, .int (nI (fb_ct (fun j => decide (40 ≤ (j_X2_cardAt vh1 vh2 (nI a) (nI j)).toNatClampNeg)) (k + 1)))), (6, .int 4), (5, .int (nI d)), (4, .int (nI k)), (1, .int (nI a)), (0, .ref a0)]) hx hb dL_isFree_66 rfl hl (by decide) rfl (fun ls hl => ?_)
            refine lv_iload hx hb dL_isFree_67 (lv_at hl 2 rfl) ?_
            refine lv_iconst (v := 4) hx hb dL_isFree_69 (by decide) ?_
            refine lv_icmp_eq (tgt := 79) hx hb dL_isFree_70 (by decide) (fun _ => ?_) (fun c_ => absurd (by decide) c_)
            refine lv_aload_n hx hb dL_isFree_79 rfl (lv_at hl 6 rfl) ?_
            refine jr_callV (n := 0) (C := RX2) (As := []) (rest := []) S (c_X2_pile a0 aR aF aG cI vrow vdrawn vtr vled vmov vw1 vw2 veo veb vh1 vt1 vp1 vk1 vg1 vh2 vt2 vp2 vk2 vg2) gL_isFree_X2_pile rfl (by decide +kernel) rfl ⟨⟨rfl, rfl⟩, ⟨Nat.le_of_ble_eq_true rfl, Nat.le_of_ble_eq_true rfl⟩, Nat.le_of_ble_eq_true rfl, Nat.le_of_ble_eq_true rfl⟩ hP hK hN [0, 1, 2, 3] [0] rfl rfl 0 2 rfl rfl rfl (lv_nil hl) rfl (Nat.le_of_ble_eq_true rfl) dL_isFree_80 ?_
            refine lv_if_gt (tgt := 102) hx hb dL_isFree_83 (by decide) (fun c_ => absurd c_ cp) (fun _ => ?_)
            refine lv_aload_n hx hb dL_isFree_86 rfl (lv_at hl 6 rfl) ?_
            refine jr_callV (n := 0) (C := RX2) (As := []) (rest := []) S (c_X2_led a0 aR aF aG cI vrow vdrawn vtr vled vmov vw1 vw2 veo veb vh1 vt1 vp1 vk1 vg1 vh2 vt2 vp2 vk2 vg2) gL_isFree_X2_led rfl (by decide +kernel) rfl ⟨⟨rfl, rfl⟩, ⟨Nat.le_of_ble_eq_true rfl, Nat.le_of_ble_eq_true rfl⟩, Nat.le_of_ble_eq_true rfl, Nat.le_of_ble_eq_true rfl⟩ hP hK hN [0, 1, 2, 3] [0] rfl rfl 0 2 rfl rfl rfl (lv_nil hl) rfl (Nat.le_of_ble_eq_true rfl) dL_isFree_87 ?_
            refine lv_if_lt (tgt := 102) hx hb dL_isFree_90 (by decide) (fun c_ => absurd c_ c0) (fun _ => ?_)
            refine lv_aload_n hx hb dL_isFree_93 rfl (lv_at hl 6 rfl) ?_
            refine jr_callV (n := 0) (C := RX2) (As := []) (rest := []) S (c_X2_led a0 aR aF aG cI vrow vdrawn vtr vled vmov vw1 vw2 veo veb vh1 vt1 vp1 vk1 vg1 vh2 vt2 vp2 vk2 vg2) gL_isFree_X2_led rfl (by decide +kernel) rfl ⟨⟨rfl, rfl⟩, ⟨Nat.le_of_ble_eq_true rfl, Nat.le_of_ble_eq_true rfl⟩, Nat.le_of_ble_eq_true rfl, Nat.le_of_ble_eq_true rfl⟩ hP hK hN [0, 1, 2, 3] [0] rfl rfl 0 2 rfl rfl rfl (lv_nil hl) rfl (Nat.le_of_ble_eq_true rfl) dL_isFree_94 ?_
            refine lv_bipush (v := 39) hx hb dL_isFree_97 (by decide) ?_
            refine lv_icmp_le (tgt := 104) hx hb dL_isFree_99 (by decide) (fun _ => ?_) (fun c_ => absurd c39b c_)
            refine lv_iload hx hb dL_isFree_104 (lv_at hl 2 rfl) ?_
            refine lv_iconst (v := 3) hx hb dL_isFree_106 (by decide) ?_
            refine lv_icmp_ne (tgt := 126) hx hb dL_isFree_107 (by decide) (fun _ => ?_) (fun c_ => absurd c_ (by decide))
            refine lv_iinc (v := nI (k + 1)) (lv' := [(4, .int (nI (k + 1))), (2, .int (nI (fb_ct (fun j => decide (j_X2_reasonAgainst vdrawn vtr vled (nI a) vh1 vh2 (nI (j_X2_cardAt vh1 vh2 (nI a) (nI j)).toNatClampNeg) = 0)) (k + 1)))), (3, .int (nI (fb_ct (fun j => decide (40 ≤ (j_X2_cardAt vh1 vh2 (nI a) (nI j)).toNatClampNeg)) (k + 1)))), (6, .int 4), (5, .int (nI d)), (1, .int (nI a)), (0, .ref a0)]) hx hb dL_isFree_126 hl (k := 4) rfl (nI_1 k) (by decide) rfl (fun ls hl => ?_)
            refine lv_goto (tgt := 12) hx hb dL_isFree_129 (by decide) ?_
            exact ih (k + 1) (by omega) ls (lv_sub hl [0, 1, 2, 5, 6] rfl)
          · have c39 : nI d ≤ 39 := d39.mpr m40
            have e3 : nI (fb_ct (fun j => decide (40 ≤ (j_X2_cardAt vh1 vh2 (nI a) (nI j)).toNatClampNeg)) k) + 0 = nI (fb_ct (fun j => decide (40 ≤ (j_X2_cardAt vh1 vh2 (nI a) (nI j)).toNatClampNeg)) (k + 1)) := by
              rw [Int32.add_zero, fm, if_neg m40]; rfl
            refine lv_iload hx hb dL_isFree_12 (lv_at hl 0 rfl) ?_
            refine lv_aload_n hx hb dL_isFree_14 rfl (lv_at hl 4 rfl) ?_
            refine lv_iload_n hx hb dL_isFree_15 rfl (lv_at hl 3 rfl) ?_
            refine jr_callV (n := 1) (C := RX2) (As := [.int (nI a)]) (rest := [.int (nI k)]) S (c_X2_cards a0 aR aF aG cI vrow vdrawn vtr vled vmov vw1 vw2 veo veb vh1 vt1 vp1 vk1 vg1 vh2 vt2 vp2 vk2 vg2 (nI a) hAa) gL_isFree_X2_cards rfl (by decide +kernel) rfl ⟨⟨rfl, rfl⟩, ⟨Nat.le_of_ble_eq_true rfl, Nat.le_of_ble_eq_true rfl⟩, Nat.le_of_ble_eq_true rfl, Nat.le_of_ble_eq_true rfl⟩ hP hK hN [0, 1, 2, 3] [0] rfl rfl 0 2 rfl rfl rfl (lv_nil hl) rfl (Nat.le_of_ble_eq_true rfl) dL_isFree_16 ?_
            refine lv_icmp_ge (tgt := 132) hx hb dL_isFree_19 (by decide) (fun c_ => absurd c_ c1) (fun _ => ?_)
            refine lv_aload_n hx hb dL_isFree_22 rfl (lv_at hl 4 rfl) ?_
            refine lv_iload_n hx hb dL_isFree_23 rfl (lv_at hl 3 rfl) ?_
            refine lv_iload hx hb dL_isFree_24 (lv_at hl 0 rfl) ?_
            refine jr_callV (n := 2) (C := RX2) (As := [.int (nI a), .int (nI k)]) (rest := []) S (c_X2_cardAt a0 aR aF aG cI vrow vdrawn vtr vled vmov vw1 vw2 veo veb vh1 vt1 vp1 vk1 vg1 vh2 vt2 vp2 vk2 vg2 (nI a) (nI k) hne hAa) gL_isFree_X2_cardAt rfl (by decide +kernel) rfl ⟨⟨rfl, rfl⟩, ⟨Nat.le_of_ble_eq_true rfl, Nat.le_of_ble_eq_true rfl⟩, Nat.le_of_ble_eq_true rfl, Nat.le_of_ble_eq_true rfl⟩ hP hK hN [0, 1, 2, 3] [0] rfl rfl 0 2 rfl rfl rfl (lv_nil hl) rfl (Nat.le_of_ble_eq_true rfl) dL_isFree_26 ?_
            rw [cd]
            refine lv_istore (lv' := [(5, .int (nI d)), (4, .int (nI k)), (2, .int (nI (fb_ct (fun j => decide (j_X2_reasonAgainst vdrawn vtr vled (nI a) vh1 vh2 (nI (j_X2_cardAt vh1 vh2 (nI a) (nI j)).toNatClampNeg) = 0)) k))), (3, .int (nI (fb_ct (fun j => decide (40 ≤ (j_X2_cardAt vh1 vh2 (nI a) (nI j)).toNatClampNeg)) k))), (1, .int (nI a)), (0, .ref a0)]) hx hb dL_isFree_29 hl (by decide) rfl (fun ls hl => ?_)
            refine lv_aload_n hx hb dL_isFree_31 rfl (lv_at hl 5 rfl) ?_
            refine lv_iload hx hb dL_isFree_32 (lv_at hl 0 rfl) ?_
            refine jr_callV (n := 1) (C := RX2) (As := [.int (nI d)]) (rest := []) S (c_X2_whyNot a0 aR aF aG cI vrow vdrawn vtr vled vmov vw1 vw2 veo veb vh1 vt1 vp1 vk1 vg1 vh2 vt2 vp2 vk2 vg2 (nI d) hcd) gL_isFree_X2_whyNot rfl (by decide +kernel) rfl ⟨⟨rfl, rfl⟩, ⟨Nat.le_of_ble_eq_true rfl, Nat.le_of_ble_eq_true rfl⟩, Nat.le_of_ble_eq_true rfl, Nat.le_of_ble_eq_true rfl⟩ hP hK hN [0, 1, 2, 3] [0] rfl rfl 0 2 rfl rfl rfl (lv_nil hl) rfl (Nat.le_of_ble_eq_true rfl) dL_isFree_34 ?_
            rw [hwr]
            refine lv_istore (lv' := [(6, .int 4), (5, .int (nI d)), (4, .int (nI k)), (2, .int (nI (fb_ct (fun j => decide (j_X2_reasonAgainst vdrawn vtr vled (nI a) vh1 vh2 (nI (j_X2_cardAt vh1 vh2 (nI a) (nI j)).toNatClampNeg) = 0)) k))), (3, .int (nI (fb_ct (fun j => decide (40 ≤ (j_X2_cardAt vh1 vh2 (nI a) (nI j)).toNatClampNeg)) k))), (1, .int (nI a)), (0, .ref a0)]) hx hb dL_isFree_37 hl (by decide) rfl (fun ls hl => ?_)
            refine lv_iload_n hx hb dL_isFree_39 rfl (lv_at hl 4 rfl) ?_
            refine lv_iload hx hb dL_isFree_40 (lv_at hl 1 rfl) ?_
            refine lv_bipush (v := 39) hx hb dL_isFree_42 (by decide) ?_
            refine lv_icmp_le (tgt := 51) hx hb dL_isFree_44 (by decide) (fun _ => ?_) (fun c_ => absurd c39 c_)
            refine lv_iconst (v := 0) hx hb dL_isFree_51 (by decide) ?_
            refine lv_iadd hx hb dL_isFree_52 ?_
            rw [e3]
            refine lv_istore_n (lv' := [(3, .int (nI (fb_ct (fun j => decide (40 ≤ (j_X2_cardAt vh1 vh2 (nI a) (nI j)).toNatClampNeg)) (k + 1)))), (6, .int 4), (5, .int (nI d)), (4, .int (nI k)), (2, .int (nI (fb_ct (fun j => decide (j_X2_reasonAgainst vdrawn vtr vled (nI a) vh1 vh2 (nI (j_X2_cardAt vh1 vh2 (nI a) (nI j)).toNatClampNeg) = 0)) k))), (1, .int (nI a)), (0, .ref a0)]) hx hb dL_isFree_53 rfl hl (by decide) rfl (fun ls hl => ?_)
            refine lv_iload_n hx hb dL_isFree_54 rfl (lv_at hl 4 rfl) ?_
            refine lv_iload hx hb dL_isFree_55 (lv_at hl 1 rfl) ?_
            refine lv_if_ne (tgt := 64) hx hb dL_isFree_57 (by decide) (fun _ => ?_) (fun c_ => absurd c_ (by decide))
            refine lv_iconst (v := 0) hx hb dL_isFree_64 (by decide) ?_
            refine lv_iadd hx hb dL_isFree_65 ?_
            rw [e2]
            refine lv_istore_n (lv' := [(2, .int (nI (fb_ct (fun j => decide (j_X2_reasonAgainst vdrawn vtr vled (nI a) vh1 vh2 (nI (j_X2_cardAt vh1 vh2 (nI a) (nI j)).toNatClampNeg) = 0)) (k + 1)))), (3, .int (nI (fb_ct (fun j => decide (40 ≤ (j_X2_cardAt vh1 vh2 (nI a) (nI j)).toNatClampNeg)) (k + 1)))), (6, .int 4), (5, .int (nI d)), (4, .int (nI k)), (1, .int (nI a)), (0, .ref a0)]) hx hb dL_isFree_66 rfl hl (by decide) rfl (fun ls hl => ?_)
            refine lv_iload hx hb dL_isFree_67 (lv_at hl 2 rfl) ?_
            refine lv_iconst (v := 4) hx hb dL_isFree_69 (by decide) ?_
            refine lv_icmp_eq (tgt := 79) hx hb dL_isFree_70 (by decide) (fun _ => ?_) (fun c_ => absurd (by decide) c_)
            refine lv_aload_n hx hb dL_isFree_79 rfl (lv_at hl 6 rfl) ?_
            refine jr_callV (n := 0) (C := RX2) (As := []) (rest := []) S (c_X2_pile a0 aR aF aG cI vrow vdrawn vtr vled vmov vw1 vw2 veo veb vh1 vt1 vp1 vk1 vg1 vh2 vt2 vp2 vk2 vg2) gL_isFree_X2_pile rfl (by decide +kernel) rfl ⟨⟨rfl, rfl⟩, ⟨Nat.le_of_ble_eq_true rfl, Nat.le_of_ble_eq_true rfl⟩, Nat.le_of_ble_eq_true rfl, Nat.le_of_ble_eq_true rfl⟩ hP hK hN [0, 1, 2, 3] [0] rfl rfl 0 2 rfl rfl rfl (lv_nil hl) rfl (Nat.le_of_ble_eq_true rfl) dL_isFree_80 ?_
            refine lv_if_gt (tgt := 102) hx hb dL_isFree_83 (by decide) (fun c_ => absurd c_ cp) (fun _ => ?_)
            refine lv_aload_n hx hb dL_isFree_86 rfl (lv_at hl 6 rfl) ?_
            refine jr_callV (n := 0) (C := RX2) (As := []) (rest := []) S (c_X2_led a0 aR aF aG cI vrow vdrawn vtr vled vmov vw1 vw2 veo veb vh1 vt1 vp1 vk1 vg1 vh2 vt2 vp2 vk2 vg2) gL_isFree_X2_led rfl (by decide +kernel) rfl ⟨⟨rfl, rfl⟩, ⟨Nat.le_of_ble_eq_true rfl, Nat.le_of_ble_eq_true rfl⟩, Nat.le_of_ble_eq_true rfl, Nat.le_of_ble_eq_true rfl⟩ hP hK hN [0, 1, 2, 3] [0] rfl rfl 0 2 rfl rfl rfl (lv_nil hl) rfl (Nat.le_of_ble_eq_true rfl) dL_isFree_87 ?_
            refine lv_if_lt (tgt := 102) hx hb dL_isFree_90 (by decide) (fun c_ => absurd c_ c0) (fun _ => ?_)
            refine lv_aload_n hx hb dL_isFree_93 rfl (lv_at hl 6 rfl) ?_
            refine jr_callV (n := 0) (C := RX2) (As := []) (rest := []) S (c_X2_led a0 aR aF aG cI vrow vdrawn vtr vled vmov vw1 vw2 veo veb vh1 vt1 vp1 vk1 vg1 vh2 vt2 vp2 vk2 vg2) gL_isFree_X2_led rfl (by decide +kernel) rfl ⟨⟨rfl, rfl⟩, ⟨Nat.le_of_ble_eq_true rfl, Nat.le_of_ble_eq_true rfl⟩, Nat.le_of_ble_eq_true rfl, Nat.le_of_ble_eq_true rfl⟩ hP hK hN [0, 1, 2, 3] [0] rfl rfl 0 2 rfl rfl rfl (lv_nil hl) rfl (Nat.le_of_ble_eq_true rfl) dL_isFree_94 ?_
            refine lv_bipush (v := 39) hx hb dL_isFree_97 (by decide) ?_
            refine lv_icmp_le (tgt := 104) hx hb dL_isFree_99 (by decide) (fun _ => ?_) (fun c_ => absurd c39b c_)
            refine lv_iload hx hb dL_isFree_104 (lv_at hl 2 rfl) ?_
            refine lv_iconst (v := 3) hx hb dL_isFree_106 (by decide) ?_
            refine lv_icmp_ne (tgt := 126) hx hb dL_isFree_107 (by decide) (fun _ => ?_) (fun c_ => absurd c_ (by decide))
            refine lv_iinc (v := nI (k + 1)) (lv' := [(4, .int (nI (k + 1))), (2, .int (nI (fb_ct (fun j => decide (j_X2_reasonAgainst vdrawn vtr vled (nI a) vh1 vh2 (nI (j_X2_cardAt vh1 vh2 (nI a) (nI j)).toNatClampNeg) = 0)) (k + 1)))), (3, .int (nI (fb_ct (fun j => decide (40 ≤ (j_X2_cardAt vh1 vh2 (nI a) (nI j)).toNatClampNeg)) (k + 1)))), (6, .int 4), (5, .int (nI d)), (1, .int (nI a)), (0, .ref a0)]) hx hb dL_isFree_126 hl (k := 4) rfl (nI_1 k) (by decide) rfl (fun ls hl => ?_)
            refine lv_goto (tgt := 12) hx hb dL_isFree_129 (by decide) ?_
            exact ih (k + 1) (by omega) ls (lv_sub hl [0, 1, 2, 5, 6] rfl)
        · skip
          have hwr : j_X2_whyNot vdrawn vtr vled vmov vh1 vh2 (nI d) = 5 := by rw [hm]; exact hq
          have e2 : nI (fb_ct (fun j => decide (j_X2_reasonAgainst vdrawn vtr vled (nI a) vh1 vh2 (nI (j_X2_cardAt vh1 vh2 (nI a) (nI j)).toNatClampNeg) = 0)) k) + 0 = nI (fb_ct (fun j => decide (j_X2_reasonAgainst vdrawn vtr vled (nI a) vh1 vh2 (nI (j_X2_cardAt vh1 vh2 (nI a) (nI j)).toNatClampNeg) = 0)) (k + 1)) := by
            rw [Int32.add_zero, fa, if_neg (by rw [hq]; decide)]; rfl
          by_cases m40 : 40 ≤ d
          · have c39 : ¬ nI d ≤ 39 := fun z => (d39.mp z) m40
            have e3 : nI (fb_ct (fun j => decide (40 ≤ (j_X2_cardAt vh1 vh2 (nI a) (nI j)).toNatClampNeg)) k) + 1 = nI (fb_ct (fun j => decide (40 ≤ (j_X2_cardAt vh1 vh2 (nI a) (nI j)).toNatClampNeg)) (k + 1)) := by
              rw [nI_1, fm, if_pos m40]
            refine lv_iload hx hb dL_isFree_12 (lv_at hl 0 rfl) ?_
            refine lv_aload_n hx hb dL_isFree_14 rfl (lv_at hl 4 rfl) ?_
            refine lv_iload_n hx hb dL_isFree_15 rfl (lv_at hl 3 rfl) ?_
            refine jr_callV (n := 1) (C := RX2) (As := [.int (nI a)]) (rest := [.int (nI k)]) S (c_X2_cards a0 aR aF aG cI vrow vdrawn vtr vled vmov vw1 vw2 veo veb vh1 vt1 vp1 vk1 vg1 vh2 vt2 vp2 vk2 vg2 (nI a) hAa) gL_isFree_X2_cards rfl (by decide +kernel) rfl ⟨⟨rfl, rfl⟩, ⟨Nat.le_of_ble_eq_true rfl, Nat.le_of_ble_eq_true rfl⟩, Nat.le_of_ble_eq_true rfl, Nat.le_of_ble_eq_true rfl⟩ hP hK hN [0, 1, 2, 3] [0] rfl rfl 0 2 rfl rfl rfl (lv_nil hl) rfl (Nat.le_of_ble_eq_true rfl) dL_isFree_16 ?_
            refine lv_icmp_ge (tgt := 132) hx hb dL_isFree_19 (by decide) (fun c_ => absurd c_ c1) (fun _ => ?_)
            refine lv_aload_n hx hb dL_isFree_22 rfl (lv_at hl 4 rfl) ?_
            refine lv_iload_n hx hb dL_isFree_23 rfl (lv_at hl 3 rfl) ?_
            refine lv_iload hx hb dL_isFree_24 (lv_at hl 0 rfl) ?_
            refine jr_callV (n := 2) (C := RX2) (As := [.int (nI a), .int (nI k)]) (rest := []) S (c_X2_cardAt a0 aR aF aG cI vrow vdrawn vtr vled vmov vw1 vw2 veo veb vh1 vt1 vp1 vk1 vg1 vh2 vt2 vp2 vk2 vg2 (nI a) (nI k) hne hAa) gL_isFree_X2_cardAt rfl (by decide +kernel) rfl ⟨⟨rfl, rfl⟩, ⟨Nat.le_of_ble_eq_true rfl, Nat.le_of_ble_eq_true rfl⟩, Nat.le_of_ble_eq_true rfl, Nat.le_of_ble_eq_true rfl⟩ hP hK hN [0, 1, 2, 3] [0] rfl rfl 0 2 rfl rfl rfl (lv_nil hl) rfl (Nat.le_of_ble_eq_true rfl) dL_isFree_26 ?_
            rw [cd]
            refine lv_istore (lv' := [(5, .int (nI d)), (4, .int (nI k)), (2, .int (nI (fb_ct (fun j => decide (j_X2_reasonAgainst vdrawn vtr vled (nI a) vh1 vh2 (nI (j_X2_cardAt vh1 vh2 (nI a) (nI j)).toNatClampNeg) = 0)) k))), (3, .int (nI (fb_ct (fun j => decide (40 ≤ (j_X2_cardAt vh1 vh2 (nI a) (nI j)).toNatClampNeg)) k))), (1, .int (nI a)), (0, .ref a0)]) hx hb dL_isFree_29 hl (by decide) rfl (fun ls hl => ?_)
            refine lv_aload_n hx hb dL_isFree_31 rfl (lv_at hl 5 rfl) ?_
            refine lv_iload hx hb dL_isFree_32 (lv_at hl 0 rfl) ?_
            refine jr_callV (n := 1) (C := RX2) (As := [.int (nI d)]) (rest := []) S (c_X2_whyNot a0 aR aF aG cI vrow vdrawn vtr vled vmov vw1 vw2 veo veb vh1 vt1 vp1 vk1 vg1 vh2 vt2 vp2 vk2 vg2 (nI d) hcd) gL_isFree_X2_whyNot rfl (by decide +kernel) rfl ⟨⟨rfl, rfl⟩, ⟨Nat.le_of_ble_eq_true rfl, Nat.le_of_ble_eq_true rfl⟩, Nat.le_of_ble_eq_true rfl, Nat.le_of_ble_eq_true rfl⟩ hP hK hN [0, 1, 2, 3] [0] rfl rfl 0 2 rfl rfl rfl (lv_nil hl) rfl (Nat.le_of_ble_eq_true rfl) dL_isFree_34 ?_
            rw [hwr]
            refine lv_istore (lv' := [(6, .int 5), (5, .int (nI d)), (4, .int (nI k)), (2, .int (nI (fb_ct (fun j => decide (j_X2_reasonAgainst vdrawn vtr vled (nI a) vh1 vh2 (nI (j_X2_cardAt vh1 vh2 (nI a) (nI j)).toNatClampNeg) = 0)) k))), (3, .int (nI (fb_ct (fun j => decide (40 ≤ (j_X2_cardAt vh1 vh2 (nI a) (nI j)).toNatClampNeg)) k))), (1, .int (nI a)), (0, .ref a0)]) hx hb dL_isFree_37 hl (by decide) rfl (fun ls hl => ?_)
            refine lv_iload_n hx hb dL_isFree_39 rfl (lv_at hl 4 rfl) ?_
            refine lv_iload hx hb dL_isFree_40 (lv_at hl 1 rfl) ?_
            refine lv_bipush (v := 39) hx hb dL_isFree_42 (by decide) ?_
            refine lv_icmp_le (tgt := 51) hx hb dL_isFree_44 (by decide) (fun c_ => absurd c_ c39) (fun _ => ?_)
            refine lv_iconst (v := 1) hx hb dL_isFree_47 (by decide) ?_
            refine lv_goto (tgt := 52) hx hb dL_isFree_48 (by decide) ?_
            refine lv_iadd hx hb dL_isFree_52 ?_
            rw [e3]
            refine lv_istore_n (lv' := [(3, .int (nI (fb_ct (fun j => decide (40 ≤ (j_X2_cardAt vh1 vh2 (nI a) (nI j)).toNatClampNeg)) (k + 1)))), (6, .int 5), (5, .int (nI d)), (4, .int (nI k)), (2, .int (nI (fb_ct (fun j => decide (j_X2_reasonAgainst vdrawn vtr vled (nI a) vh1 vh2 (nI (j_X2_cardAt vh1 vh2 (nI a) (nI j)).toNatClampNeg) = 0)) k))), (1, .int (nI a)), (0, .ref a0)]) hx hb dL_isFree_53 rfl hl (by decide) rfl (fun ls hl => ?_)
            refine lv_iload_n hx hb dL_isFree_54 rfl (lv_at hl 4 rfl) ?_
            refine lv_iload hx hb dL_isFree_55 (lv_at hl 1 rfl) ?_
            refine lv_if_ne (tgt := 64) hx hb dL_isFree_57 (by decide) (fun _ => ?_) (fun c_ => absurd c_ (by decide))
            refine lv_iconst (v := 0) hx hb dL_isFree_64 (by decide) ?_
            refine lv_iadd hx hb dL_isFree_65 ?_
            rw [e2]
            refine lv_istore_n (lv' := [(2, .int (nI (fb_ct (fun j => decide (j_X2_reasonAgainst vdrawn vtr vled (nI a) vh1 vh2 (nI (j_X2_cardAt vh1 vh2 (nI a) (nI j)).toNatClampNeg) = 0)) (k + 1)))), (3, .int (nI (fb_ct (fun j => decide (40 ≤ (j_X2_cardAt vh1 vh2 (nI a) (nI j)).toNatClampNeg)) (k + 1)))), (6, .int 5), (5, .int (nI d)), (4, .int (nI k)), (1, .int (nI a)), (0, .ref a0)]) hx hb dL_isFree_66 rfl hl (by decide) rfl (fun ls hl => ?_)
            refine lv_iload hx hb dL_isFree_67 (lv_at hl 2 rfl) ?_
            refine lv_iconst (v := 4) hx hb dL_isFree_69 (by decide) ?_
            refine lv_icmp_eq (tgt := 79) hx hb dL_isFree_70 (by decide) (fun c_ => absurd c_ (by decide)) (fun _ => ?_)
            refine lv_iload hx hb dL_isFree_73 (lv_at hl 2 rfl) ?_
            refine lv_iconst (v := 5) hx hb dL_isFree_75 (by decide) ?_
            refine lv_icmp_ne (tgt := 104) hx hb dL_isFree_76 (by decide) (fun c_ => absurd (by decide) c_) (fun _ => ?_)
            refine lv_aload_n hx hb dL_isFree_79 rfl (lv_at hl 6 rfl) ?_
            refine jr_callV (n := 0) (C := RX2) (As := []) (rest := []) S (c_X2_pile a0 aR aF aG cI vrow vdrawn vtr vled vmov vw1 vw2 veo veb vh1 vt1 vp1 vk1 vg1 vh2 vt2 vp2 vk2 vg2) gL_isFree_X2_pile rfl (by decide +kernel) rfl ⟨⟨rfl, rfl⟩, ⟨Nat.le_of_ble_eq_true rfl, Nat.le_of_ble_eq_true rfl⟩, Nat.le_of_ble_eq_true rfl, Nat.le_of_ble_eq_true rfl⟩ hP hK hN [0, 1, 2, 3] [0] rfl rfl 0 2 rfl rfl rfl (lv_nil hl) rfl (Nat.le_of_ble_eq_true rfl) dL_isFree_80 ?_
            refine lv_if_gt (tgt := 102) hx hb dL_isFree_83 (by decide) (fun c_ => absurd c_ cp) (fun _ => ?_)
            refine lv_aload_n hx hb dL_isFree_86 rfl (lv_at hl 6 rfl) ?_
            refine jr_callV (n := 0) (C := RX2) (As := []) (rest := []) S (c_X2_led a0 aR aF aG cI vrow vdrawn vtr vled vmov vw1 vw2 veo veb vh1 vt1 vp1 vk1 vg1 vh2 vt2 vp2 vk2 vg2) gL_isFree_X2_led rfl (by decide +kernel) rfl ⟨⟨rfl, rfl⟩, ⟨Nat.le_of_ble_eq_true rfl, Nat.le_of_ble_eq_true rfl⟩, Nat.le_of_ble_eq_true rfl, Nat.le_of_ble_eq_true rfl⟩ hP hK hN [0, 1, 2, 3] [0] rfl rfl 0 2 rfl rfl rfl (lv_nil hl) rfl (Nat.le_of_ble_eq_true rfl) dL_isFree_87 ?_
            refine lv_if_lt (tgt := 102) hx hb dL_isFree_90 (by decide) (fun c_ => absurd c_ c0) (fun _ => ?_)
            refine lv_aload_n hx hb dL_isFree_93 rfl (lv_at hl 6 rfl) ?_
            refine jr_callV (n := 0) (C := RX2) (As := []) (rest := []) S (c_X2_led a0 aR aF aG cI vrow vdrawn vtr vled vmov vw1 vw2 veo veb vh1 vt1 vp1 vk1 vg1 vh2 vt2 vp2 vk2 vg2) gL_isFree_X2_led rfl (by decide +kernel) rfl ⟨⟨rfl, rfl⟩, ⟨Nat.le_of_ble_eq_true rfl, Nat.le_of_ble_eq_true rfl⟩, Nat.le_of_ble_eq_true rfl, Nat.le_of_ble_eq_true rfl⟩ hP hK hN [0, 1, 2, 3] [0] rfl rfl 0 2 rfl rfl rfl (lv_nil hl) rfl (Nat.le_of_ble_eq_true rfl) dL_isFree_94 ?_
            refine lv_bipush (v := 39) hx hb dL_isFree_97 (by decide) ?_
            refine lv_icmp_le (tgt := 104) hx hb dL_isFree_99 (by decide) (fun _ => ?_) (fun c_ => absurd c39b c_)
            refine lv_iload hx hb dL_isFree_104 (lv_at hl 2 rfl) ?_
            refine lv_iconst (v := 3) hx hb dL_isFree_106 (by decide) ?_
            refine lv_icmp_ne (tgt := 126) hx hb dL_isFree_107 (by decide) (fun _ => ?_) (fun c_ => absurd c_ (by decide))
            refine lv_iinc (v := nI (k + 1)) (lv' := [(4, .int (nI (k + 1))), (2, .int (nI (fb_ct (fun j => decide (j_X2_reasonAgainst vdrawn vtr vled (nI a) vh1 vh2 (nI (j_X2_cardAt vh1 vh2 (nI a) (nI j)).toNatClampNeg) = 0)) (k + 1)))), (3, .int (nI (fb_ct (fun j => decide (40 ≤ (j_X2_cardAt vh1 vh2 (nI a) (nI j)).toNatClampNeg)) (k + 1)))), (6, .int 5), (5, .int (nI d)), (1, .int (nI a)), (0, .ref a0)]) hx hb dL_isFree_126 hl (k := 4) rfl (nI_1 k) (by decide) rfl (fun ls hl => ?_)
            refine lv_goto (tgt := 12) hx hb dL_isFree_129 (by decide) ?_
            exact ih (k + 1) (by omega) ls (lv_sub hl [0, 1, 2, 5, 6] rfl)
          · have c39 : nI d ≤ 39 := d39.mpr m40
            have e3 : nI (fb_ct (fun j => decide (40 ≤ (j_X2_cardAt vh1 vh2 (nI a) (nI j)).toNatClampNeg)) k) + 0 = nI (fb_ct (fun j => decide (40 ≤ (j_X2_cardAt vh1 vh2 (nI a) (nI j)).toNatClampNeg)) (k + 1)) := by
              rw [Int32.add_zero, fm, if_neg m40]; rfl
            refine lv_iload hx hb dL_isFree_12 (lv_at hl 0 rfl) ?_
            refine lv_aload_n hx hb dL_isFree_14 rfl (lv_at hl 4 rfl) ?_
            refine lv_iload_n hx hb dL_isFree_15 rfl (lv_at hl 3 rfl) ?_
            refine jr_callV (n := 1) (C := RX2) (As := [.int (nI a)]) (rest := [.int (nI k)]) S (c_X2_cards a0 aR aF aG cI vrow vdrawn vtr vled vmov vw1 vw2 veo veb vh1 vt1 vp1 vk1 vg1 vh2 vt2 vp2 vk2 vg2 (nI a) hAa) gL_isFree_X2_cards rfl (by decide +kernel) rfl ⟨⟨rfl, rfl⟩, ⟨Nat.le_of_ble_eq_true rfl, Nat.le_of_ble_eq_true rfl⟩, Nat.le_of_ble_eq_true rfl, Nat.le_of_ble_eq_true rfl⟩ hP hK hN [0, 1, 2, 3] [0] rfl rfl 0 2 rfl rfl rfl (lv_nil hl) rfl (Nat.le_of_ble_eq_true rfl) dL_isFree_16 ?_
            refine lv_icmp_ge (tgt := 132) hx hb dL_isFree_19 (by decide) (fun c_ => absurd c_ c1) (fun _ => ?_)
            refine lv_aload_n hx hb dL_isFree_22 rfl (lv_at hl 4 rfl) ?_
            refine lv_iload_n hx hb dL_isFree_23 rfl (lv_at hl 3 rfl) ?_
            refine lv_iload hx hb dL_isFree_24 (lv_at hl 0 rfl) ?_
            refine jr_callV (n := 2) (C := RX2) (As := [.int (nI a), .int (nI k)]) (rest := []) S (c_X2_cardAt a0 aR aF aG cI vrow vdrawn vtr vled vmov vw1 vw2 veo veb vh1 vt1 vp1 vk1 vg1 vh2 vt2 vp2 vk2 vg2 (nI a) (nI k) hne hAa) gL_isFree_X2_cardAt rfl (by decide +kernel) rfl ⟨⟨rfl, rfl⟩, ⟨Nat.le_of_ble_eq_true rfl, Nat.le_of_ble_eq_true rfl⟩, Nat.le_of_ble_eq_true rfl, Nat.le_of_ble_eq_true rfl⟩ hP hK hN [0, 1, 2, 3] [0] rfl rfl 0 2 rfl rfl rfl (lv_nil hl) rfl (Nat.le_of_ble_eq_true rfl) dL_isFree_26 ?_
            rw [cd]
            refine lv_istore (lv' := [(5, .int (nI d)), (4, .int (nI k)), (2, .int (nI (fb_ct (fun j => decide (j_X2_reasonAgainst vdrawn vtr vled (nI a) vh1 vh2 (nI (j_X2_cardAt vh1 vh2 (nI a) (nI j)).toNatClampNeg) = 0)) k))), (3, .int (nI (fb_ct (fun j => decide (40 ≤ (j_X2_cardAt vh1 vh2 (nI a) (nI j)).toNatClampNeg)) k))), (1, .int (nI a)), (0, .ref a0)]) hx hb dL_isFree_29 hl (by decide) rfl (fun ls hl => ?_)
            refine lv_aload_n hx hb dL_isFree_31 rfl (lv_at hl 5 rfl) ?_
            refine lv_iload hx hb dL_isFree_32 (lv_at hl 0 rfl) ?_
            refine jr_callV (n := 1) (C := RX2) (As := [.int (nI d)]) (rest := []) S (c_X2_whyNot a0 aR aF aG cI vrow vdrawn vtr vled vmov vw1 vw2 veo veb vh1 vt1 vp1 vk1 vg1 vh2 vt2 vp2 vk2 vg2 (nI d) hcd) gL_isFree_X2_whyNot rfl (by decide +kernel) rfl ⟨⟨rfl, rfl⟩, ⟨Nat.le_of_ble_eq_true rfl, Nat.le_of_ble_eq_true rfl⟩, Nat.le_of_ble_eq_true rfl, Nat.le_of_ble_eq_true rfl⟩ hP hK hN [0, 1, 2, 3] [0] rfl rfl 0 2 rfl rfl rfl (lv_nil hl) rfl (Nat.le_of_ble_eq_true rfl) dL_isFree_34 ?_
            rw [hwr]
            refine lv_istore (lv' := [(6, .int 5), (5, .int (nI d)), (4, .int (nI k)), (2, .int (nI (fb_ct (fun j => decide (j_X2_reasonAgainst vdrawn vtr vled (nI a) vh1 vh2 (nI (j_X2_cardAt vh1 vh2 (nI a) (nI j)).toNatClampNeg) = 0)) k))), (3, .int (nI (fb_ct (fun j => decide (40 ≤ (j_X2_cardAt vh1 vh2 (nI a) (nI j)).toNatClampNeg)) k))), (1, .int (nI a)), (0, .ref a0)]) hx hb dL_isFree_37 hl (by decide) rfl (fun ls hl => ?_)
            refine lv_iload_n hx hb dL_isFree_39 rfl (lv_at hl 4 rfl) ?_
            refine lv_iload hx hb dL_isFree_40 (lv_at hl 1 rfl) ?_
            refine lv_bipush (v := 39) hx hb dL_isFree_42 (by decide) ?_
            refine lv_icmp_le (tgt := 51) hx hb dL_isFree_44 (by decide) (fun _ => ?_) (fun c_ => absurd c39 c_)
            refine lv_iconst (v := 0) hx hb dL_isFree_51 (by decide) ?_
            refine lv_iadd hx hb dL_isFree_52 ?_
            rw [e3]
            refine lv_istore_n (lv' := [(3, .int (nI (fb_ct (fun j => decide (40 ≤ (j_X2_cardAt vh1 vh2 (nI a) (nI j)).toNatClampNeg)) (k + 1)))), (6, .int 5), (5, .int (nI d)), (4, .int (nI k)), (2, .int (nI (fb_ct (fun j => decide (j_X2_reasonAgainst vdrawn vtr vled (nI a) vh1 vh2 (nI (j_X2_cardAt vh1 vh2 (nI a) (nI j)).toNatClampNeg) = 0)) k))), (1, .int (nI a)), (0, .ref a0)]) hx hb dL_isFree_53 rfl hl (by decide) rfl (fun ls hl => ?_)
            refine lv_iload_n hx hb dL_isFree_54 rfl (lv_at hl 4 rfl) ?_
            refine lv_iload hx hb dL_isFree_55 (lv_at hl 1 rfl) ?_
            refine lv_if_ne (tgt := 64) hx hb dL_isFree_57 (by decide) (fun _ => ?_) (fun c_ => absurd c_ (by decide))
            refine lv_iconst (v := 0) hx hb dL_isFree_64 (by decide) ?_
            refine lv_iadd hx hb dL_isFree_65 ?_
            rw [e2]
            refine lv_istore_n (lv' := [(2, .int (nI (fb_ct (fun j => decide (j_X2_reasonAgainst vdrawn vtr vled (nI a) vh1 vh2 (nI (j_X2_cardAt vh1 vh2 (nI a) (nI j)).toNatClampNeg) = 0)) (k + 1)))), (3, .int (nI (fb_ct (fun j => decide (40 ≤ (j_X2_cardAt vh1 vh2 (nI a) (nI j)).toNatClampNeg)) (k + 1)))), (6, .int 5), (5, .int (nI d)), (4, .int (nI k)), (1, .int (nI a)), (0, .ref a0)]) hx hb dL_isFree_66 rfl hl (by decide) rfl (fun ls hl => ?_)
            refine lv_iload hx hb dL_isFree_67 (lv_at hl 2 rfl) ?_
            refine lv_iconst (v := 4) hx hb dL_isFree_69 (by decide) ?_
            refine lv_icmp_eq (tgt := 79) hx hb dL_isFree_70 (by decide) (fun c_ => absurd c_ (by decide)) (fun _ => ?_)
            refine lv_iload hx hb dL_isFree_73 (lv_at hl 2 rfl) ?_
            refine lv_iconst (v := 5) hx hb dL_isFree_75 (by decide) ?_
            refine lv_icmp_ne (tgt := 104) hx hb dL_isFree_76 (by decide) (fun c_ => absurd (by decide) c_) (fun _ => ?_)
            refine lv_aload_n hx hb dL_isFree_79 rfl (lv_at hl 6 rfl) ?_
            refine jr_callV (n := 0) (C := RX2) (As := []) (rest := []) S (c_X2_pile a0 aR aF aG cI vrow vdrawn vtr vled vmov vw1 vw2 veo veb vh1 vt1 vp1 vk1 vg1 vh2 vt2 vp2 vk2 vg2) gL_isFree_X2_pile rfl (by decide +kernel) rfl ⟨⟨rfl, rfl⟩, ⟨Nat.le_of_ble_eq_true rfl, Nat.le_of_ble_eq_true rfl⟩, Nat.le_of_ble_eq_true rfl, Nat.le_of_ble_eq_true rfl⟩ hP hK hN [0, 1, 2, 3] [0] rfl rfl 0 2 rfl rfl rfl (lv_nil hl) rfl (Nat.le_of_ble_eq_true rfl) dL_isFree_80 ?_
            refine lv_if_gt (tgt := 102) hx hb dL_isFree_83 (by decide) (fun c_ => absurd c_ cp) (fun _ => ?_)
            refine lv_aload_n hx hb dL_isFree_86 rfl (lv_at hl 6 rfl) ?_
            refine jr_callV (n := 0) (C := RX2) (As := []) (rest := []) S (c_X2_led a0 aR aF aG cI vrow vdrawn vtr vled vmov vw1 vw2 veo veb vh1 vt1 vp1 vk1 vg1 vh2 vt2 vp2 vk2 vg2) gL_isFree_X2_led rfl (by decide +kernel) rfl ⟨⟨rfl, rfl⟩, ⟨Nat.le_of_ble_eq_true rfl, Nat.le_of_ble_eq_true rfl⟩, Nat.le_of_ble_eq_true rfl, Nat.le_of_ble_eq_true rfl⟩ hP hK hN [0, 1, 2, 3] [0] rfl rfl 0 2 rfl rfl rfl (lv_nil hl) rfl (Nat.le_of_ble_eq_true rfl) dL_isFree_87 ?_
            refine lv_if_lt (tgt := 102) hx hb dL_isFree_90 (by decide) (fun c_ => absurd c_ c0) (fun _ => ?_)
            refine lv_aload_n hx hb dL_isFree_93 rfl (lv_at hl 6 rfl) ?_
            refine jr_callV (n := 0) (C := RX2) (As := []) (rest := []) S (c_X2_led a0 aR aF aG cI vrow vdrawn vtr vled vmov vw1 vw2 veo veb vh1 vt1 vp1 vk1 vg1 vh2 vt2 vp2 vk2 vg2) gL_isFree_X2_led rfl (by decide +kernel) rfl ⟨⟨rfl, rfl⟩, ⟨Nat.le_of_ble_eq_true rfl, Nat.le_of_ble_eq_true rfl⟩, Nat.le_of_ble_eq_true rfl, Nat.le_of_ble_eq_true rfl⟩ hP hK hN [0, 1, 2, 3] [0] rfl rfl 0 2 rfl rfl rfl (lv_nil hl) rfl (Nat.le_of_ble_eq_true rfl) dL_isFree_94 ?_
            refine lv_bipush (v := 39) hx hb dL_isFree_97 (by decide) ?_
            refine lv_icmp_le (tgt := 104) hx hb dL_isFree_99 (by decide) (fun _ => ?_) (fun c_ => absurd c39b c_)
            refine lv_iload hx hb dL_isFree_104 (lv_at hl 2 rfl) ?_
            refine lv_iconst (v := 3) hx hb dL_isFree_106 (by decide) ?_
            refine lv_icmp_ne (tgt := 126) hx hb dL_isFree_107 (by decide) (fun _ => ?_) (fun c_ => absurd c_ (by decide))
            refine lv_iinc (v := nI (k + 1)) (lv' := [(4, .int (nI (k + 1))), (2, .int (nI (fb_ct (fun j => decide (j_X2_reasonAgainst vdrawn vtr vled (nI a) vh1 vh2 (nI (j_X2_cardAt vh1 vh2 (nI a) (nI j)).toNatClampNeg) = 0)) (k + 1)))), (3, .int (nI (fb_ct (fun j => decide (40 ≤ (j_X2_cardAt vh1 vh2 (nI a) (nI j)).toNatClampNeg)) (k + 1)))), (6, .int 5), (5, .int (nI d)), (1, .int (nI a)), (0, .ref a0)]) hx hb dL_isFree_126 hl (k := 4) rfl (nI_1 k) (by decide) rfl (fun ls hl => ?_)
            refine lv_goto (tgt := 12) hx hb dL_isFree_129 (by decide) ?_
            exact ih (k + 1) (by omega) ls (lv_sub hl [0, 1, 2, 5, 6] rfl)
  refine lv_aload_n hx hb dL_isFree_0 rfl (lv_at hl 0 rfl) ?_
  refine jr_callV (n := 0) (C := RX2) (As := []) (rest := []) S (c_X2_turn a0 aR aF aG cI vrow vdrawn vtr vled vmov vw1 vw2 veo veb vh1 vt1 vp1 vk1 vg1 vh2 vt2 vp2 vk2 vg2) gL_isFree_X2_turn rfl (by decide +kernel) rfl ⟨⟨rfl, rfl⟩, ⟨Nat.le_of_ble_eq_true rfl, Nat.le_of_ble_eq_true rfl⟩, Nat.le_of_ble_eq_true rfl, Nat.le_of_ble_eq_true rfl⟩ hP hK hN [0, 1, 2, 3] [0] rfl rfl 0 2 rfl rfl rfl (lv_nil hl) rfl (Nat.le_of_ble_eq_true rfl) dL_isFree_1 ?_
  rw [hT]
  refine lv_istore_n (lv' := [(1, .int (nI a)), (0, .ref a0)]) hx hb dL_isFree_4 rfl hl (by decide) rfl (fun ls hl => ?_)
  refine lv_iconst (v := 0) hx hb dL_isFree_5 (by decide) ?_
  refine lv_istore_n (lv' := [(2, .int 0), (1, .int (nI a)), (0, .ref a0)]) hx hb dL_isFree_6 rfl hl (by decide) rfl (fun ls hl => ?_)
  refine lv_iconst (v := 0) hx hb dL_isFree_7 (by decide) ?_
  refine lv_istore_n (lv' := [(3, .int 0), (2, .int 0), (1, .int (nI a)), (0, .ref a0)]) hx hb dL_isFree_8 rfl hl (by decide) rfl (fun ls hl => ?_)
  refine lv_iconst (v := 0) hx hb dL_isFree_9 (by decide) ?_
  refine lv_istore (lv' := [(4, .int 0), (3, .int 0), (2, .int 0), (1, .int (nI a)), (0, .ref a0)]) hx hb dL_isFree_10 hl (by decide) rfl (fun ls hl => ?_)
  exact lp (zl_nn up a) 0 (by omega) ls (lv_sub hl [0, 2, 1, 3, 4] rfl)
