/-! GLOVES, A CARD LED, A TRICK TAKEN: what holds goes on holding -/
theorem zs_or2 (h : Int64) {l c : Nat} (hl : l < 42) (hc : c < 42) : h ||| ((j_X2_bit (nI l)) ||| (j_X2_bit (nI c))) = (h ||| (j_X2_bit (nI c))) ||| (j_X2_bit (nI l)) := by
  refine zs_ext (fun d _ => ?_)
  rw [zs_or, zs_or, zs_or, zs_or, zs_bit (by omega), zs_bit (by omega)]
  cases zs_in h d <;> cases decide (d = l) <;> cases decide (d = c) <;> rfl
theorem zh_put {up : Nat → Int32} {v x : Nat} {h : Int64} (hx : x < 42) (hh : zr_hand up v h) : zr_hand (upd up x (nI v)) v (h ||| (j_X2_bit (nI x))) := by
  intro c
  rw [zs_add (by omega), hh]
  by_cases q : c = x
  · subst q; simp [zl_p, pk_us, hx]
  · have : upd up x (nI v) c = up c := pk_un q
    simp [zl_p, this, q]
theorem zh_out {up : Nat → Int32} {v w x : Nat} {h : Int64} (hv : v < 6) (hw : w < 6) (hvw : ¬ w = v) (hx : x < 42) (hh : zr_hand up v h) : zr_hand (upd up x (nI w)) v (h &&& ((j_X2_bit (nI x)) ^^^ (-1))) := by
  intro c
  rw [zs_drop (by omega), hh]
  by_cases q : c = x
  · subst q
    have : ¬ nI w = nI v := fun e => hvw ((nI_eq (by omega) (by omega)).mp e)
    simp [zl_p, pk_us, this]
  · have : upd up x (nI w) c = up c := pk_un q
    simp [zl_p, this, q]
theorem zh_keep {up : Nat → Int32} {v w x : Nat} {h : Int64} (hv : v < 6) (hw : w < 6) (hvw : ¬ w = v) (hu : ¬ up x = nI v) (hh : zr_hand up v h) : zr_hand (upd up x (nI w)) v h := by
  intro c
  rw [hh]
  by_cases q : c = x
  · subst q
    have : ¬ nI w = nI v := fun e => hvw ((nI_eq (by omega) (by omega)).mp e)
    simp [zl_p, pk_us, this, hu]
  · have : upd up x (nI w) c = up c := pk_un q
    simp [zl_p, this]
theorem zn_set (up : Nat → Int32) (v : Nat) {x : Nat} (w : Int32) (hx : x < 42) : zl_nn (upd up x w) v + (if up x = nI v then 1 else 0) = zl_nn up v + (if w = nI v then 1 else 0) := by
  have k := fb_ct_upd (zl_p up v) (decide (w = nI v)) hx
  have e : fb_ct (fun k => if k = x then decide (w = nI v) else zl_p up v k) 42 = zl_nn (upd up x w) v :=
    fb_ct_cong (fun c _ => by
      by_cases q : c = x
      · subst q; simp [zl_p, pk_us]
      · have : upd up x w c = up c := pk_un q
        simp [zl_p, this, q])
  rw [e] at k
  simpa [zl_p] using k
theorem zn_nI {v w : Nat} (hv : v < 6) (hw : w < 6) : (nI w = nI v) ↔ w = v := nI_eq (by omega) (by omega)
theorem zn_put {up : Nat → Int32} {v w x : Nat} (hv : v < 6) (hw : w < 6) (hx : x < 42) (hu : up x = nI w) (hn : ¬ w = v) : zl_nn (upd up x (nI v)) v = zl_nn up v + 1 := by
  have k := zn_set up v (nI v) hx
  rw [hu, if_neg (fun e => hn ((zn_nI hv hw).mp e)), if_pos rfl] at k
  exact k
theorem zn_out {up : Nat → Int32} {v w x : Nat} (hv : v < 6) (hw : w < 6) (hx : x < 42) (hu : up x = nI v) (hn : ¬ w = v) : zl_nn (upd up x (nI w)) v + 1 = zl_nn up v := by
  have k := zn_set up v (nI w) hx
  rw [hu, if_pos rfl, if_neg (fun e => hn ((zn_nI hv hw).mp e))] at k
  exact k
theorem zn_keep {up : Nat → Int32} {v w y x : Nat} (hv : v < 6) (hw : w < 6) (hy : y < 6) (hx : x < 42) (hu : up x = nI y) (hn : ¬ w = v) (hm : ¬ y = v) : zl_nn (upd up x (nI w)) v = zl_nn up v := by
  have k := zn_set up v (nI w) hx
  rw [hu, if_neg (fun e => hm ((zn_nI hv hy).mp e)), if_neg (fun e => hn ((zn_nI hv hw).mp e))] at k
  exact k
section ZP
variable {vrow : Nat → Int32} {vdrawn vtr vled vmov vw1 vw2 : Int32} {vh1 vt1 : Int64} {vp1 vk1 vg1 : Int32} {vh2 vt2 : Int64} {vp2 vk2 vg2 : Int32} {up ur us ut ug uw uh : Nat → Int32} {udrawn udealt uon uturn uled utr : Int32}
theorem zp_gF (h : zr_R vrow vdrawn vtr vled vmov vw1 vw2 vh1 vt1 vp1 vk1 vg1 vh2 vt2 vp2 vk2 vg2 up ur us ut ug uw uh udrawn udealt uon uturn uled utr) (h0 : ¬ vmov = (-1)) (h1 : vmov = 0) (h2 : vg1 = 0) :
    zr_R vrow vdrawn vtr vled vmov vw1 vw2 vh1 vt1 vp1 vk1 j_X2_putOnGloves_F_vg1 vh2 vt2 vp2 vk2 vg2 up ur us ut (j_X3_putOnGloves_uglv ug uon uturn) uw uh udrawn udealt uon uturn uled utr ∧ j_X2_putOnGloves_F vmov = j_X3_putOnGloves ug uon uturn ∧ j_X3_putOnGloves_uthr ug uon uturn = 0 := by
  obtain ⟨⟨w1, w2, p1, p2, k1, k2, q1, q2⟩, he, hh, ht, hm, hr, hd⟩ := h
  rcases hm with ⟨_, m1, _⟩ | ⟨m0, m1⟩
  · exact absurd m1 h0
  · have o : ¬ uon = 0 := by rw [m0]; decide
    have u0 : uturn = 0 := by rw [← m1, h1]
    have z : ug uturn.toNatClampNeg = 0 := by rw [u0, zr_c0, ← q1, h2]
    unfold j_X3_putOnGloves_uglv j_X3_putOnGloves j_X3_putOnGloves_uthr
    rw [if_neg o, if_pos z, if_neg o, if_pos z, if_neg o, if_pos z]
    refine ⟨⟨⟨w1, w2, p1, p2, k1, k2, ?_, ?_⟩, he, hh, ht, Or.inr ⟨m0, m1⟩, hr, hd⟩, m1, rfl⟩
    · rw [u0, zr_c0, pk_us]; rfl
    · rw [u0, zr_c0, pk_un (by decide)]; exact q2
theorem zp_gG (h : zr_R vrow vdrawn vtr vled vmov vw1 vw2 vh1 vt1 vp1 vk1 vg1 vh2 vt2 vp2 vk2 vg2 up ur us ut ug uw uh udrawn udealt uon uturn uled utr) (h0 : ¬ vmov = (-1)) (h1 : ¬ vmov = 0) (h2 : vg2 = 0) :
    zr_R vrow vdrawn vtr vled vmov vw1 vw2 vh1 vt1 vp1 vk1 vg1 vh2 vt2 vp2 vk2 j_X2_putOnGloves_G_vg2 up ur us ut (j_X3_putOnGloves_uglv ug uon uturn) uw uh udrawn udealt uon uturn uled utr ∧ j_X2_putOnGloves_G vmov = j_X3_putOnGloves ug uon uturn ∧ j_X3_putOnGloves_uthr ug uon uturn = 0 := by
  obtain ⟨⟨w1, w2, p1, p2, k1, k2, q1, q2⟩, he, hh, ht, hm, hr, hd⟩ := h
  rcases hm with ⟨_, m1, _⟩ | ⟨m0, m1⟩
  · exact absurd m1 h0
  · have o : ¬ uon = 0 := by rw [m0]; decide
    have u0 : uturn = 1 := by
      rcases ht with e | e
      · exact absurd (m1.trans e) h1
      · exact e
    have z : ug uturn.toNatClampNeg = 0 := by rw [u0, zr_c1, ← q2, h2]
    unfold j_X3_putOnGloves_uglv j_X3_putOnGloves j_X3_putOnGloves_uthr
    rw [if_neg o, if_pos z, if_neg o, if_pos z, if_neg o, if_pos z]
    refine ⟨⟨⟨w1, w2, p1, p2, k1, k2, ?_, ?_⟩, he, hh, ht, Or.inr ⟨m0, m1⟩, hr, hd⟩, m1, rfl⟩
    · rw [u0, zr_c1, pk_un (by decide)]; exact q1
    · rw [u0, zr_c1, pk_us]; rfl
theorem zp_gX (h : zr_R vrow vdrawn vtr vled vmov vw1 vw2 vh1 vt1 vp1 vk1 vg1 vh2 vt2 vp2 vk2 vg2 up ur us ut ug uw uh udrawn udealt uon uturn uled utr) (h0 : vmov = (-1) ∨ (vmov = 0 ∧ ¬ vg1 = 0) ∨ (¬ vmov = (-1) ∧ ¬ vmov = 0 ∧ ¬ vg2 = 0)) :
    j_X3_putOnGloves_uglv ug uon uturn = ug ∧ j_X3_putOnGloves_uthr ug uon uturn = 1 := by
  obtain ⟨⟨w1, w2, p1, p2, k1, k2, q1, q2⟩, he, hh, ht, hm, hr, hd⟩ := h
  unfold j_X3_putOnGloves_uglv j_X3_putOnGloves_uthr
  rcases hm with ⟨m0, m1, _⟩ | ⟨m0, m1⟩
  · rw [if_pos m0, if_pos m0]; exact ⟨rfl, rfl⟩
  · have o : ¬ uon = 0 := by rw [m0]; decide
    rw [if_neg o, if_neg o]
    have z : ¬ ug uturn.toNatClampNeg = 0 := by
      rcases ht with e | e
      · rw [e, zr_c0, ← q1]
        rcases h0 with k | ⟨_, k⟩ | ⟨_, k, _⟩
        · rw [m1, e] at k; exact absurd k (by decide)
        · exact k
        · exact absurd (m1.trans e) k
      · rw [e, zr_c1, ← q2]
        rcases h0 with k | ⟨k, _⟩ | ⟨_, _, k⟩
        · rw [m1, e] at k; exact absurd k (by decide)
        · rw [m1, e] at k; exact absurd k (by decide)
        · exact k
    rw [if_neg z, if_neg z]
    exact ⟨rfl, rfl⟩
/-! a card is drawn -/
theorem zd_ix {D : Nat} (hD : D < 30) : ((if 29 ≤ nI D then 12 else 13 + nI D) : Int32).toNatClampNeg = zr_s (12 + D) := by
  have : ∀ D, D < 30 → ((if 29 ≤ nI D then 12 else 13 + nI D) : Int32).toNatClampNeg = zr_s (12 + D) := by decide +kernel
  exact this D hD
theorem zd_up {g inv : Nat → Nat} {D : Nat} (hD : D < 30) (hr : zr_row vrow ur g inv) (x : Int32) : j_X3_draws_uplace up ur (nI D) 1 x = upd up (g (zr_s (12 + D))) x ∧ j_X3_draws_udrawn (nI D) 1 = nI (D + 1) := by
  have p : j_X3_inPile (nI D) 1 = nI (30 - D) := by
    unfold j_X3_inPile
    rw [if_neg (by decide)]
    exact pk_sub (a := 30) (b := D) (by omega)
  have n : ¬ j_X3_inPile (nI D) 1 ≤ 0 := by
    rw [p]; exact nI_nle (by omega) (by omega)
  have s42 : zr_s (12 + D) < 42 := by unfold zr_s; split <;> omega
  unfold j_X3_draws_uplace j_X3_draws_udrawn
  rw [if_neg n, if_neg n, zd_ix hD, (hr.1 _ s42).1, nI_clamp (by have := (hr.1 _ s42).2.1; omega), nI_1]
  exact ⟨rfl, rfl⟩
theorem zd_up0 (x : Int32) : j_X3_draws_uplace up ur (nI 30) 1 x = up ∧ j_X3_draws_udrawn (nI 30) 1 = nI 30 := by
  have n : j_X3_inPile (nI 30) 1 ≤ 0 := by decide
  unfold j_X3_draws_uplace j_X3_draws_udrawn
  rw [if_pos n, if_pos n]
  exact ⟨rfl, rfl⟩
theorem zd_F {g inv : Nat → Nat} {D : Nat} (hD : D < 30) (hr : zr_row vrow ur g inv) (h : Int64) : j_X2_drawFor_F_vh1 vrow (nI (12 + D)) h = h ||| (j_X2_bit (nI (g (zr_s (12 + D))))) ∧ j_X2_drawFor_F_vdrawn (nI (12 + D)) = nI (12 + D + 1) := by
  have s42 : zr_s (12 + D) < 42 := by unfold zr_s; split <;> omega
  have n1 : ¬ nI (12 + D) < 0 := nI_pos (by omega)
  have n2 : ¬ (42 : Int32) ≤ nI (12 + D) := fun e => by
    have := (nI_leI (a := 42) (b := 12 + D) (by decide) (by omega)).mp e
    omega
  unfold j_X2_drawFor_F_vh1 j_X2_drawFor_F_vdrawn
  rw [if_neg n1, if_neg n2, if_neg n1, if_neg n2, nI_clamp (by omega), hr.2 (12 + D) (by omega) (by omega), (hr.1 _ s42).1, nI_1]
  exact ⟨rfl, rfl⟩
theorem zd_F0 (h : Int64) : j_X2_drawFor_F_vh1 vrow (nI 42) h = h ∧ j_X2_drawFor_F_vdrawn (nI 42) = nI 42 := by
  unfold j_X2_drawFor_F_vh1 j_X2_drawFor_F_vdrawn
  rw [if_neg (by decide), if_pos (by decide), if_neg (by decide), if_pos (by decide)]
  exact ⟨rfl, rfl⟩
theorem zd_G (vrow : Nat → Int32) (x : Int32) (h : Int64) : j_X2_drawFor_G_vh2 vrow x h = j_X2_drawFor_F_vh1 vrow x h ∧ j_X2_drawFor_G_vdrawn x = j_X2_drawFor_F_vdrawn x := ⟨rfl, rfl⟩
end ZP
