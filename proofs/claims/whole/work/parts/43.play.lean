/-! A CARD IS PLAYED: class and reference stay side by side -/
theorem zr_sinj {i j : Nat} (hi : 12 ≤ i) (hi2 : i < 42) (hj : 12 ≤ j) (hj2 : j < 42) (e : zr_s i = zr_s j) : i = j := by
  unfold zr_s at e
  split at e <;> split at e <;> omega
theorem zr_s42 {j : Nat} (h : j < 42) : zr_s j < 42 := by unfold zr_s; split <;> omega
theorem zr_gne {vrow ur : Nat → Int32} {g inv : Nat → Nat} (hr : zr_row vrow ur g inv) {i j : Nat} (hi : 12 ≤ i) (hi2 : i < 42) (hj : 12 ≤ j) (hj2 : j < 42) (n : ¬ i = j) : ¬ g (zr_s i) = g (zr_s j) := by
  intro e
  have a := (hr.1 _ (zr_s42 hi2)).2.2
  have b := (hr.1 _ (zr_s42 hj2)).2.2
  rw [e, b] at a
  exact n (zr_sinj hi hi2 hj hj2 a.symm)
theorem zp_draw {vrow ur u2 : Nat → Int32} {τ σ E : Nat} {g inv : Nat → Nat} {k1 k2 : Int64} (hτ : τ + σ = 1) (hE : E ≤ 15) (hr : zr_row vrow ur g inv) (hp : ∀ j, 12 + 2 * E ≤ j → j < 42 → u2 (g (zr_s j)) = nI 2) (f1 : zr_hand u2 0 k1) (f2 : zr_hand u2 1 k2) (f7 : zl_nn u2 0 = zl_nn u2 1) (f8 : E < 15 → zl_nn u2 0 = 5) (f9 : zl_nn u2 0 ≤ 6) :
    ∃ (U : Nat → Int32) (H1 H2 : Int64) (E' : Nat), (j_X3_draws_uplace (j_X3_draws_uplace u2 ur (nI (2 * E)) 1 (nI τ)) ur (j_X3_draws_udrawn (nI (2 * E)) 1) 1 (nI σ) = U ∧ j_X3_draws_udrawn (j_X3_draws_udrawn (nI (2 * E)) 1) 1 = nI (2 * E') ∧ E' ≤ 15) ∧
      (τ = 0 → j_X2_drawFor_F_vh1 vrow (nI (12 + 2 * E)) k1 = H1 ∧ j_X2_drawFor_G_vh2 vrow (j_X2_drawFor_F_vdrawn (nI (12 + 2 * E))) k2 = H2 ∧ j_X2_drawFor_G_vdrawn (j_X2_drawFor_F_vdrawn (nI (12 + 2 * E))) = nI (12 + 2 * E')) ∧
      (τ = 1 → j_X2_drawFor_F_vh1 vrow (j_X2_drawFor_G_vdrawn (nI (12 + 2 * E))) k1 = H1 ∧ j_X2_drawFor_G_vh2 vrow (nI (12 + 2 * E)) k2 = H2 ∧ j_X2_drawFor_F_vdrawn (j_X2_drawFor_G_vdrawn (nI (12 + 2 * E))) = nI (12 + 2 * E')) ∧
      zr_hand U 0 H1 ∧ zr_hand U 1 H2 ∧ (∀ c, c < 42 → U c = u2 c ∨ (u2 c = nI 2 ∧ (U c = nI 0 ∨ U c = nI 1))) ∧ (∀ j, 12 + 2 * E' ≤ j → j < 42 → U (g (zr_s j)) = nI 2) ∧ zl_nn U 0 = zl_nn U 1 ∧ zl_nn U 0 ≤ 6 ∧ (E' < 15 → zl_nn U 0 = 6) := by
  by_cases e15 : E = 15
  · subst e15
    have z1 := zd_up0 (up := u2) (ur := ur) (nI τ)
    have z2 := zd_up0 (up := u2) (ur := ur) (nI σ)
    have y1 := zd_F0 (vrow := vrow) k1
    have y2 := zd_F0 (vrow := vrow) k2
    refine ⟨u2, k1, k2, 15, ⟨?_, ?_, Nat.le_refl _⟩, fun _ => ⟨y1.1, ?_, ?_⟩, fun _ => ⟨?_, y2.1, ?_⟩, f1, f2, fun c _ => Or.inl rfl, hp, f7, f9, fun h => by omega⟩
    · show j_X3_draws_uplace (j_X3_draws_uplace u2 ur (nI 30) 1 (nI τ)) ur (j_X3_draws_udrawn (nI 30) 1) 1 (nI σ) = u2
      rw [z1.1, z1.2, z2.1]
    · show j_X3_draws_udrawn (j_X3_draws_udrawn (nI 30) 1) 1 = nI 30
      rw [z1.2, z1.2]
    · show j_X2_drawFor_F_vh1 vrow (j_X2_drawFor_F_vdrawn (nI 42)) k2 = k2
      rw [y1.2, y2.1]
    · show j_X2_drawFor_F_vdrawn (j_X2_drawFor_F_vdrawn (nI 42)) = nI 42
      rw [y1.2, y1.2]
    · show j_X2_drawFor_F_vh1 vrow (j_X2_drawFor_F_vdrawn (nI 42)) k1 = k1
      rw [y1.2, y1.1]
    · show j_X2_drawFor_F_vdrawn (j_X2_drawFor_F_vdrawn (nI 42)) = nI 42
      rw [y1.2, y1.2]
  · have hE14 : E < 15 := by omega
    have i1 : 12 + 2 * E < 42 := by omega
    have i2 : 12 + 2 * E + 1 < 42 := by omega
    have d1 : g (zr_s (12 + 2 * E)) < 42 := (hr.1 _ (zr_s42 i1)).2.1
    have d2 : g (zr_s (12 + 2 * E + 1)) < 42 := (hr.1 _ (zr_s42 i2)).2.1
    have v1 : u2 (g (zr_s (12 + 2 * E))) = nI 2 := hp _ (Nat.le_refl _) i1
    have v2 : u2 (g (zr_s (12 + 2 * E + 1))) = nI 2 := hp _ (by omega) i2
    have ne : ¬ g (zr_s (12 + 2 * E + 1)) = g (zr_s (12 + 2 * E)) := zr_gne hr (by omega) i2 (by omega) i1 (by omega)
    have n5 := f8 hE14
    have A1 := fun (u : Nat → Int32) (x : Int32) => zd_up (up := u) (D := 2 * E) (by omega) hr x
    have A2 := fun (u : Nat → Int32) (x : Int32) => zd_up (up := u) (D := 2 * E + 1) (by omega) hr x
    have B1 := fun (h : Int64) => zd_F (D := 2 * E) (by omega) hr h
    have B2 := fun (h : Int64) => zd_F (D := 2 * E + 1) (by omega) hr h
    have B2' : ∀ h : Int64, j_X2_drawFor_F_vh1 vrow (nI (12 + 2 * E + 1)) h = h ||| (j_X2_bit (nI (g (zr_s (12 + 2 * E + 1))))) ∧ j_X2_drawFor_F_vdrawn (nI (12 + 2 * E + 1)) = nI (12 + 2 * (E + 1)) := fun h => B2 h
    have A2' : ∀ (u : Nat → Int32) (x : Int32), j_X3_draws_uplace u ur (nI (2 * E + 1)) 1 x = upd u (g (zr_s (12 + 2 * E + 1))) x ∧ j_X3_draws_udrawn (nI (2 * E + 1)) 1 = nI (2 * (E + 1)) := fun u x => A2 u x
    generalize hd1 : g (zr_s (12 + 2 * E)) = x1 at *
    generalize hd2 : g (zr_s (12 + 2 * E + 1)) = x2 at *
    have far : ∀ j, 12 + 2 * (E + 1) ≤ j → j < 42 → ¬ g (zr_s j) = x1 ∧ ¬ g (zr_s j) = x2 := fun j h1 h2 => ⟨by rw [← hd1]; exact zr_gne hr (by omega) h2 (by omega) i1 (by omega), by rw [← hd2]; exact zr_gne hr (by omega) h2 (by omega) i2 (by omega)⟩
    have T : (τ = 0 ∧ σ = 1) ∨ (τ = 1 ∧ σ = 0) := by omega
    rcases T with ⟨t1, t2⟩ | ⟨t1, t2⟩
    · subst t1; subst t2
      have w2 : (upd u2 x1 (nI 0)) x2 = nI 2 := by rw [pk_un ne]; exact v2
      refine ⟨upd (upd u2 x1 (nI 0)) x2 (nI 1), k1 ||| (j_X2_bit (nI x1)), k2 ||| (j_X2_bit (nI x2)), E + 1, ⟨?_, ?_, by omega⟩, fun _ => ⟨(B1 k1).1, ?_, ?_⟩, fun h => absurd h (by decide), ?_, ?_, fun c hc => ?_, fun j h1 h2 => ?_, ?_, ?_, fun _ => ?_⟩
      · rw [(A1 u2 (nI 0)).1, (A1 u2 (nI 0)).2, (A2' _ (nI 1)).1]
      · rw [(A1 u2 (nI 0)).2, (A2' u2 (nI 1)).2]
      · show j_X2_drawFor_F_vh1 vrow (j_X2_drawFor_F_vdrawn (nI (12 + 2 * E))) k2 = _
        rw [(B1 k1).2, (B2' k2).1]
      · show j_X2_drawFor_F_vdrawn (j_X2_drawFor_F_vdrawn (nI (12 + 2 * E))) = _
        rw [(B1 k1).2, (B2' k2).2]
      · exact zh_keep (by decide) (by decide) (by decide) (by rw [w2]; decide) (zh_put d1 f1)
      · exact zh_put d2 (zh_keep (by decide) (by decide) (by decide) (by rw [v1]; decide) f2)
      · by_cases q2 : c = x2
        · subst q2; exact Or.inr ⟨v2, Or.inr pk_us⟩
        · by_cases q1 : c = x1
          · subst q1; exact Or.inr ⟨v1, Or.inl (by rw [pk_un q2, pk_us])⟩
          · exact Or.inl (by rw [pk_un q2, pk_un q1])
      · obtain ⟨m1, m2⟩ := far j h1 h2
        rw [pk_un m2, pk_un m1]; exact hp j (by omega) h2
      · rw [zn_keep (v := 0) (w := 1) (y := 2) (by decide) (by decide) (by decide) d2 w2 (by decide) (by decide), zn_put (v := 0) (w := 2) (by decide) (by decide) d1 v1 (by decide), zn_put (v := 1) (w := 2) (by decide) (by decide) d2 w2 (by decide), zn_keep (v := 1) (w := 0) (y := 2) (by decide) (by decide) (by decide) d1 v1 (by decide) (by decide), f7]
      · rw [zn_keep (v := 0) (w := 1) (y := 2) (by decide) (by decide) (by decide) d2 w2 (by decide) (by decide), zn_put (v := 0) (w := 2) (by decide) (by decide) d1 v1 (by decide), n5]
        decide
      · rw [zn_keep (v := 0) (w := 1) (y := 2) (by decide) (by decide) (by decide) d2 w2 (by decide) (by decide), zn_put (v := 0) (w := 2) (by decide) (by decide) d1 v1 (by decide), n5]
    · subst t1; subst t2
      have w2 : (upd u2 x1 (nI 1)) x2 = nI 2 := by rw [pk_un ne]; exact v2
      refine ⟨upd (upd u2 x1 (nI 1)) x2 (nI 0), k1 ||| (j_X2_bit (nI x2)), k2 ||| (j_X2_bit (nI x1)), E + 1, ⟨?_, ?_, by omega⟩, fun h => absurd h (by decide), fun _ => ⟨?_, (B1 k2).1, ?_⟩, ?_, ?_, fun c hc => ?_, fun j h1 h2 => ?_, ?_, ?_, fun _ => ?_⟩
      · rw [(A1 u2 (nI 1)).1, (A1 u2 (nI 1)).2, (A2' _ (nI 0)).1]
      · rw [(A1 u2 (nI 1)).2, (A2' u2 (nI 0)).2]
      · show j_X2_drawFor_F_vh1 vrow (j_X2_drawFor_F_vdrawn (nI (12 + 2 * E))) k1 = _
        rw [(B1 k1).2, (B2' k1).1]
      · show j_X2_drawFor_F_vdrawn (j_X2_drawFor_F_vdrawn (nI (12 + 2 * E))) = _
        rw [(B1 k1).2, (B2' k2).2]
      · exact zh_put d2 (zh_keep (by decide) (by decide) (by decide) (by rw [v1]; decide) f1)
      · exact zh_keep (by decide) (by decide) (by decide) (by rw [w2]; decide) (zh_put d1 f2)
      · by_cases q2 : c = x2
        · subst q2; exact Or.inr ⟨v2, Or.inl pk_us⟩
        · by_cases q1 : c = x1
          · subst q1; exact Or.inr ⟨v1, Or.inr (by rw [pk_un q2, pk_us])⟩
          · exact Or.inl (by rw [pk_un q2, pk_un q1])
      · obtain ⟨m1, m2⟩ := far j h1 h2
        rw [pk_un m2, pk_un m1]; exact hp j (by omega) h2
      · rw [zn_put (v := 0) (w := 2) (by decide) (by decide) d2 w2 (by decide), zn_keep (v := 0) (w := 1) (y := 2) (by decide) (by decide) (by decide) d1 v1 (by decide) (by decide), zn_keep (v := 1) (w := 0) (y := 2) (by decide) (by decide) (by decide) d2 w2 (by decide) (by decide), zn_put (v := 1) (w := 2) (by decide) (by decide) d1 v1 (by decide), f7]
      · rw [zn_put (v := 0) (w := 2) (by decide) (by decide) d2 w2 (by decide), zn_keep (v := 0) (w := 1) (y := 2) (by decide) (by decide) (by decide) d1 v1 (by decide) (by decide), n5]
        decide
      · rw [zn_put (v := 0) (w := 2) (by decide) (by decide) d2 w2 (by decide), zn_keep (v := 0) (w := 1) (y := 2) (by decide) (by decide) (by decide) d1 v1 (by decide) (by decide), n5]
theorem zp_over {U : Nat → Int32} {H1 H2 : Int64} (h1 : zr_hand U 0 H1) (h2 : zr_hand U 1 H2) (e : zl_nn U 0 = zl_nn U 1) : (lg_cmp (H1 ||| H2) 0 = 0 ↔ zl_nn U 0 = 0) ∧ (j_X3_howMany U 1 0 + j_X3_howMany U 1 1 = 0 ↔ zl_nn U 0 = 0) := by
  have a0 : j_X3_howMany U 1 0 = nI (zl_nn U 0) := zl_hm U 0 (by decide)
  have a1 : j_X3_howMany U 1 1 = nI (zl_nn U 1) := zl_hm U 1 (by decide)
  have le : zl_nn U 1 ≤ 42 := fb_ct_le _ 42
  constructor
  · have z1 := zs_ct_nil (zl_hw U h1)
    have z2 := zs_ct_nil (zl_hw U h2)
    rw [zl_hct U h1] at z1
    rw [zl_hct U h2] at z2
    rw [zs_cmp]
    constructor
    · intro k
      refine z1.mpr (zs_nil.mpr (fun c hc => ?_))
      have := k c hc
      rw [zs_or] at this
      simp at this
      exact this.1
    · intro k c hc
      rw [zs_or, zs_nil.mp (z1.mp k) c hc, zs_nil.mp (z2.mp (by omega)) c hc]; rfl
  · rw [a0, a1, nI_add, e]
    exact (nI_eq (a := zl_nn U 1 + zl_nn U 1) (b := 0) (by omega) (by decide)).trans (by omega)
section ZP
variable {vrow : Nat → Int32} {vdrawn vtr vled vmov vw1 vw2 : Int32} {vh1 vt1 : Int64} {vp1 vk1 vg1 : Int32} {vh2 vt2 : Int64} {vp2 vk2 vg2 : Int32} {up ur us ut ug uw uh : Nat → Int32} {udrawn udealt uon uturn uled utr x0 : Int32}
/-! the class's mirrors of a trick, in one shape -/
theorem zp_w1 (hT : j_X2_takerBy vtr vled vmov x0 = 0 ∨ j_X2_takerBy vtr vled vmov x0 = 1) : j_X2_finishTrick_vw1 vrow vdrawn vtr vled vmov vw1 vh1 vp1 vg1 vh2 vp2 vg2 x0 = if lg_cmp ((j_X2_finishTrick_vh1 vrow vdrawn vtr vled vmov vh1 x0) ||| (j_X2_finishTrick_vh2 vrow vdrawn vtr vled vmov vh2 x0)) 0 = 0 then j_X2_endGame_vw1 vw1 (j_X2_finishTrick_vp1 vtr vled vmov vp1 vg1 x0) (j_X2_finishTrick_vp2 vtr vled vmov vp2 vg2 x0) else vw1 := by
  have n1 : ¬ ((1 : Int32) - 0 = 0) := by decide
  have n2 : (1 : Int32) - 1 = 0 := by decide
  have n3 : ¬ (1 : Int32) = 0 := by decide
  unfold j_X2_finishTrick_vw1 j_X2_finishTrick_vh1 j_X2_finishTrick_vh2 j_X2_finishTrick_vp1 j_X2_finishTrick_vp2
  rcases hT with e | e
  · rw [e]
    by_cases q : vg1 = 1
    · simp only [if_pos q, if_neg n1, if_pos rfl, ite_true]
    · simp only [if_neg q, if_neg n1, if_pos rfl, ite_true]
  · rw [e]
    by_cases q : vg2 = 1
    · simp only [if_pos q, n2, if_neg n3, if_pos rfl, ite_true]
    · simp only [if_neg q, n2, if_neg n3, if_pos rfl, ite_true]
theorem zp_w2 (hT : j_X2_takerBy vtr vled vmov x0 = 0 ∨ j_X2_takerBy vtr vled vmov x0 = 1) : j_X2_finishTrick_vw2 vrow vdrawn vtr vled vmov vw2 vh1 vp1 vg1 vh2 vp2 vg2 x0 = if lg_cmp ((j_X2_finishTrick_vh1 vrow vdrawn vtr vled vmov vh1 x0) ||| (j_X2_finishTrick_vh2 vrow vdrawn vtr vled vmov vh2 x0)) 0 = 0 then j_X2_endGame_vw2 vw2 (j_X2_finishTrick_vp1 vtr vled vmov vp1 vg1 x0) (j_X2_finishTrick_vp2 vtr vled vmov vp2 vg2 x0) else vw2 := by
  have n1 : ¬ ((1 : Int32) - 0 = 0) := by decide
  have n2 : (1 : Int32) - 1 = 0 := by decide
  have n3 : ¬ (1 : Int32) = 0 := by decide
  unfold j_X2_finishTrick_vw2 j_X2_finishTrick_vh1 j_X2_finishTrick_vh2 j_X2_finishTrick_vp1 j_X2_finishTrick_vp2
  rcases hT with e | e
  · rw [e]
    by_cases q : vg1 = 1
    · simp only [if_pos q, if_neg n1, if_pos rfl, ite_true]
    · simp only [if_neg q, if_neg n1, if_pos rfl, ite_true]
  · rw [e]
    by_cases q : vg2 = 1
    · simp only [if_pos q, n2, if_neg n3, if_pos rfl, ite_true]
    · simp only [if_neg q, n2, if_neg n3, if_pos rfl, ite_true]
theorem zp_m (hT : j_X2_takerBy vtr vled vmov x0 = 0 ∨ j_X2_takerBy vtr vled vmov x0 = 1) : j_X2_finishTrick_vmov vrow vdrawn vtr vled vmov vh1 vh2 x0 = if lg_cmp ((j_X2_finishTrick_vh1 vrow vdrawn vtr vled vmov vh1 x0) ||| (j_X2_finishTrick_vh2 vrow vdrawn vtr vled vmov vh2 x0)) 0 = 0 then (-1) else j_X2_takerBy vtr vled vmov x0 := by
  have n1 : ¬ ((1 : Int32) - 0 = 0) := by decide
  have n2 : (1 : Int32) - 1 = 0 := by decide
  have n3 : ¬ (1 : Int32) = 0 := by decide
  unfold j_X2_finishTrick_vmov j_X2_finishTrick_vh1 j_X2_finishTrick_vh2 j_X2_endGame_vmov
  rcases hT with e | e
  · rw [e]
    simp only [if_neg n1, if_pos rfl, ite_true]
  · rw [e]
    simp only [n2, if_neg n3, if_pos rfl, ite_true]
/-- the reference's, in one shape -/
theorem zp_uw : j_X3_ends_uwin up ur us ug uw udrawn udealt uturn uled utr x0 = if (j_X3_howMany (j_X3_ends_uplace up ur udrawn udealt uturn uled utr x0) udealt 0) + (j_X3_howMany (j_X3_ends_uplace up ur udrawn udealt uturn uled utr x0) udealt 1) = 0 then upd (upd uw (0 : Int32).toNatClampNeg ((uw (0 : Int32).toNatClampNeg) + ((if (j_X3_ends_upts us ug uturn uled utr x0) (0 : Int32).toNatClampNeg ≤ (j_X3_ends_upts us ug uturn uled utr x0) (1 : Int32).toNatClampNeg then 0 else 1) : Int32))) (1 : Int32).toNatClampNeg (((upd uw (0 : Int32).toNatClampNeg ((uw (0 : Int32).toNatClampNeg) + ((if (j_X3_ends_upts us ug uturn uled utr x0) (0 : Int32).toNatClampNeg ≤ (j_X3_ends_upts us ug uturn uled utr x0) (1 : Int32).toNatClampNeg then 0 else 1) : Int32))) (1 : Int32).toNatClampNeg) + ((if (j_X3_ends_upts us ug uturn uled utr x0) (1 : Int32).toNatClampNeg ≤ (j_X3_ends_upts us ug uturn uled utr x0) (0 : Int32).toNatClampNeg then 0 else 1) : Int32)) else uw := rfl
theorem zp_uo : j_X3_ends_uon up ur udrawn udealt uon uturn uled utr x0 = if (j_X3_howMany (j_X3_ends_uplace up ur udrawn udealt uturn uled utr x0) udealt 0) + (j_X3_howMany (j_X3_ends_uplace up ur udrawn udealt uturn uled utr x0) udealt 1) = 0 then 0 else uon := rfl
end ZP
