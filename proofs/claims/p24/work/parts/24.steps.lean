/-! P24: A DEAL, GLOVES, A LEAD, A TRICK, THE END OF A GAME -/
theorem pq_012 (up ur : Nat → Int32) (x0 : Int64) : ∀ c, c < 42 → j_X3_deal_uplace up ur x0 c = nI 0 ∨ j_X3_deal_uplace up ur x0 c = nI 1 ∨ j_X3_deal_uplace up ur x0 c = nI 2 := by
  obtain ⟨g, inv, h1, h2⟩ := zd_all (fun _ => 0) ur x0
  have P := zd_place (r := j_X3_deal_urow ur x0) (g := g) (inv := inv) (fun k hk => ⟨(h1 k hk).2.1, (h1 k hk).2.2.1, (h1 k hk).2.2.2⟩) 42 0 up (by decide) (fun k hk => absurd hk (Nat.not_lt_zero _))
  intro c hc
  obtain ⟨i42, gi⟩ := h2 c hc
  have e := P (inv c) (by omega)
  rw [gi] at e
  have e' : j_X3_deal_uplace up ur x0 c = nI (zd_ph (inv c)) := e
  rw [e']
  by_cases q : inv c < 6
  · exact Or.inl (by rw [zd_ph, if_pos q])
  · by_cases r : inv c < 12
    · exact Or.inr (Or.inl (by rw [zd_ph, if_neg q, if_pos r]))
    · exact Or.inr (Or.inr (by rw [zd_ph, if_neg q, if_neg r]))
theorem pq_sel {g : Nat → Int32} {v1 v2 : Int32} {τ : Nat} (h1 : v1 = g 0) (h2 : v2 = g 1) (hτ : τ < 2) : (if nI τ = 0 then v1 else v2) = g τ := by
  have : τ = 0 ∨ τ = 1 := by omega
  rcases this with e | e
  · subst e; rw [if_pos (by decide)]; exact h1
  · subst e; rw [if_neg (by decide)]; exact h2
section PS
variable {vrow : Nat → Int32} {vdrawn vtr vled vmov vw1 vw2 : Int32} {vh1 vt1 : Int64} {vp1 vk1 vg1 : Int32} {vh2 vt2 : Int64} {vp2 vk2 vg2 : Int32} {sp f s : Int32} {n : Nat} {up ur us ut ug uw uh : Nat → Int32} {udrawn udealt uon uturn uled utr : Int32}
theorem pq_deal (h : zr_R vrow vdrawn vtr vled vmov vw1 vw2 vh1 vt1 vp1 vk1 vg1 vh2 vt2 vp2 vk2 vg2 up ur us ut ug uw uh udrawn udealt uon uturn uled utr) (x0 : Int64) :
    ∃ up', pq_R (j_X2_deal_vrow vrow x0) (j_X2_deal_vdrawn) (j_X2_deal_vtr vrow x0) (j_X2_deal_vled) (j_X2_deal_vmov) vw1 vw2 (j_X2_deal_vh1 vrow x0) (j_X2_deal_vt1) (j_X2_deal_vp1) (j_X2_deal_vk1) (j_X2_deal_vg1) (j_X2_deal_vh2 vrow x0) (j_X2_deal_vt2) (j_X2_deal_vp2) (j_X2_deal_vk2) (j_X2_deal_vg2) 0 vw1 vw2 42 up' := by
  have P := (zp_deal h x0).1
  have H := pq_012 up ur x0
  have hw := h.1
  have hpl : ∀ c, c < 42 → ∃ v, v < 6 ∧ j_X3_deal_uplace up ur x0 c = nI v := fun c hc => by
    rcases H c hc with e | e | e
    · exact ⟨0, by decide, e⟩
    · exact ⟨1, by decide, e⟩
    · exact ⟨2, by decide, e⟩
  have hz : ∀ v, 3 ≤ v → v < 6 → zl_nn (j_X3_deal_uplace up ur x0) v = 0 := fun v h1 h2 => fb_ct_zero.mpr (fun c hc => by
    have : ¬ j_X3_deal_uplace up ur x0 c = nI v := by
      rcases H c hc with e | e | e
      · rw [e]; intro z; have := (zn_nI (v := v) (w := 0) h2 (by decide)).mp z; omega
      · rw [e]; intro z; have := (zn_nI (v := v) (w := 1) h2 (by decide)).mp z; omega
      · rw [e]; intro z; have := (zn_nI (v := v) (w := 2) h2 (by decide)).mp z; omega
    simp [zl_p, this])
  have part : zl_nn (j_X3_deal_uplace up ur x0) 0 + zl_nn (j_X3_deal_uplace up ur x0) 1 + zl_nn (j_X3_deal_uplace up ur x0) 2 + zl_nn (j_X3_deal_uplace up ur x0) 3 + zl_nn (j_X3_deal_uplace up ur x0) 4 + zl_nn (j_X3_deal_uplace up ur x0) 5 = 42 := pq_part hpl
  have z3 := hz 3 (by decide) (by decide)
  have z4 := hz 4 (by decide) (by decide)
  have z5 := hz 5 (by decide) (by decide)
  have six : zl_nn (j_X3_deal_uplace up ur x0) 0 = 6 ∧ zl_nn (j_X3_deal_uplace up ur x0) 1 = 6 := by
    obtain ⟨_, _, _, _, _, _, hd⟩ := P
    rcases hd with ⟨d, _⟩ | ⟨_, t, a, b, E, g, inv, _, ⟨hab, _⟩, ⟨hE, e3, _⟩, _, _, _, _, _, _, hon⟩
    · exact absurd d (by decide)
    · have e0 : E = 0 := by
        have e3' : nI 0 = nI (2 * E) := e3
        have := (nI_eq (by omega) (by omega)).mp e3'
        omega
      obtain ⟨q, _, q6⟩ := hon rfl
      have qa := q6 (by omega)
      have qe : zl_nn (j_X3_deal_uplace up ur x0) a = zl_nn (j_X3_deal_uplace up ur x0) b := by
        rcases q with r | r
        · exact r.2
        · exact absurd rfl r.1
      have hab2 : (a = 0 ∧ b = 1) ∨ (a = 1 ∧ b = 0) := by omega
      rcases hab2 with ⟨e1, e2⟩ | ⟨e1, e2⟩
      · subst e1; subst e2; exact ⟨qa, by omega⟩
      · subst e1; subst e2; exact ⟨by omega, qa⟩
  have sum0 : ∀ m, m ≤ 42 → pq_sum (j_X3_deal_uplace up ur x0) m = 0 := by
    intro m
    induction m with
    | zero => intro _; rfl
    | succ m ih =>
      intro hm
      have nt : ¬ pq_T (j_X3_deal_uplace up ur x0 m) := by
        rcases H m (by omega) with e | e | e
        · rw [e]; decide
        · rw [e]; decide
        · rw [e]; decide
      rw [pq_sum, ih (by omega), if_neg nt]; rfl
  have c0 := zr_c0
  have c1 := zr_c1
  have t0 : j_X3_deal_utks ut 0 = 0 ∧ j_X3_deal_utks ut 1 = 0 := by
    unfold j_X3_deal_utks
    rw [c0, c1]
    exact ⟨by rw [pk_un (by decide), pk_us], pk_us⟩
  have p0 : j_X3_deal_upts us 0 = 0 ∧ j_X3_deal_upts us 1 = 0 := by
    unfold j_X3_deal_upts
    rw [c0, c1]
    exact ⟨by rw [pk_un (by decide), pk_us], pk_us⟩
  refine ⟨_, _, _, _, _, _, _, _, _, _, _, _, P, ⟨0, 0, 0, ⟨by decide, rfl⟩, ⟨t0.1, t0.2, by omega⟩, by omega, ?_, fun e => absurd e (by decide), Or.inl ⟨rfl, hw.1.symm, hw.2.1.symm⟩⟩, by omega⟩
  rw [p0.1, p0.2, sum0 42 (Nat.le_refl _)]
  decide
theorem pq_gloveF (h : pq_R vrow vdrawn vtr vled vmov vw1 vw2 vh1 vt1 vp1 vk1 vg1 vh2 vt2 vp2 vk2 vg2 sp f s n up) (h0 : ¬ vmov = (-1)) (h1 : vmov = 0) (h2 : vg1 = 0) : pq_R vrow vdrawn vtr vled vmov vw1 vw2 vh1 vt1 vp1 vk1 j_X2_putOnGloves_F_vg1 vh2 vt2 vp2 vk2 vg2 sp f s n up := by
  obtain ⟨ur, us, ut, ug, uw, uh, udrawn, uon, uturn, uled, utr, hR, hJ, hn⟩ := h
  exact ⟨ur, us, ut, _, uw, uh, udrawn, uon, uturn, uled, utr, (zp_gF hR h0 h1 h2).1, hJ, hn⟩
theorem pq_gloveG (h : pq_R vrow vdrawn vtr vled vmov vw1 vw2 vh1 vt1 vp1 vk1 vg1 vh2 vt2 vp2 vk2 vg2 sp f s n up) (h0 : ¬ vmov = (-1)) (h1 : ¬ vmov = 0) (h2 : vg2 = 0) : pq_R vrow vdrawn vtr vled vmov vw1 vw2 vh1 vt1 vp1 vk1 vg1 vh2 vt2 vp2 vk2 j_X2_putOnGloves_G_vg2 sp f s n up := by
  obtain ⟨ur, us, ut, ug, uw, uh, udrawn, uon, uturn, uled, utr, hR, hJ, hn⟩ := h
  exact ⟨ur, us, ut, _, uw, uh, udrawn, uon, uturn, uled, utr, (zp_gG hR h0 h1 h2).1, hJ, hn⟩
theorem pq_end (h : pq_R vrow vdrawn vtr vled vmov vw1 vw2 vh1 vt1 vp1 vk1 vg1 vh2 vt2 vp2 vk2 vg2 sp f s n up) (hm : vmov = (-1)) : vk1 + vk2 = 21 ∧ vp1 + vp2 = 210 + 5 * sp ∧ vw1 = f + (if vp1 ≤ vp2 then 0 else 1) ∧ vw2 = s + (if vp2 ≤ vp1 then 0 else 1) := by
  obtain ⟨ur, us, ut, ug, uw, uh, udrawn, uon, uturn, uled, utr, ⟨⟨w1, w2, p1, p2, q1, q2, _, _⟩, _, _, ht, hmm, _, hd⟩, ⟨E, k0, k1, ⟨j1, j2⟩, ⟨j3, j4, j5⟩, j6, j7, j8, j9⟩, _⟩ := h
  have on0 : uon = 0 ∧ vled = (-1) := by
    rcases hmm with ⟨o, _, l⟩ | ⟨o, m⟩
    · exact ⟨o, l⟩
    · exfalso
      rw [m] at hm
      rcases ht with e | e
      · rw [e] at hm; exact absurd hm (by decide)
      · rw [e] at hm; exact absurd hm (by decide)
  obtain ⟨z0, z1, zE⟩ := j8 on0.1
  rcases hd with ⟨d, _⟩ | ⟨_, t, a, b, E2, g, inv, _, _, _, _, pl, lo, _⟩
  · exact absurd d (by decide)
  · have no3 : zl_nn up 3 = 0 := by
      refine fb_ct_zero.mpr (fun c hc => ?_)
      rcases lo with ⟨_, n3⟩ | ⟨l, hl, e, _⟩
      · simp [zl_p, n3 c hc]
      · rw [on0.2] at e
        exact absurd e.symm (zs_nm1 l hl)
    have part : zl_nn up 0 + zl_nn up 1 + zl_nn up 2 + zl_nn up 3 + zl_nn up 4 + zl_nn up 5 = 42 := pq_part pl
    have allT : ∀ c, c < 42 → pq_T (up c) := by
      intro c hc
      obtain ⟨v, hv, u⟩ := pl c hc
      have no : ∀ w, zl_nn up w = 0 → ¬ v = w := fun w hw e => by
        have := fb_ct_zero.mp hw c hc
        simp [zl_p, u, e] at this
      rw [u, pq_Tn hv]
      have a0 := no 0 z0
      have a1 := no 1 z1
      have a2 := no 2 (by omega)
      have a3 := no 3 no3
      omega
    refine ⟨?_, ?_, ?_, ?_⟩
    · rw [q1, q2, j3, j4, nI_add, show k0 + k1 = 21 by omega]; rfl
    · rw [p1, p2, j7, pq_all allT, pq_210]
    · rcases j9 with ⟨o, _⟩ | ⟨_, o1, _⟩
      · rw [on0.1] at o; exact absurd o (by decide)
      · rw [w1, p1, p2]; exact o1
    · rcases j9 with ⟨o, _⟩ | ⟨_, _, o2⟩
      · rw [on0.1] at o; exact absurd o (by decide)
      · rw [w2, p1, p2]; exact o2
/-- a lead -/
theorem pq_leadT (h : pq_R vrow vdrawn vtr vled vmov vw1 vw2 vh1 vt1 vp1 vk1 vg1 vh2 vt2 vp2 vk2 vg2 sp f s n up) {c : Nat} (hc : c < 42) (hw : j_X2_reasonAgainst vdrawn vtr vled vmov vh1 vh2 (nI c) = 0) (hl : vled = (-1)) :
    ∃ up' n', n' + 1 = n ∧ pq_R vrow (j_X2_play_vdrawn vdrawn vtr vled vmov (nI c)) vtr (j_X2_play_vled vled (nI c)) (j_X2_play_vmov vrow vdrawn vtr vled vmov vh1 vh2 (nI c)) (j_X2_play_vw1 vrow vdrawn vtr vled vmov vw1 vh1 vp1 vg1 vh2 vp2 vg2 (nI c)) (j_X2_play_vw2 vrow vdrawn vtr vled vmov vw2 vh1 vp1 vg1 vh2 vp2 vg2 (nI c)) (j_X2_play_vh1 vrow vdrawn vtr vled vmov vh1 (nI c)) (j_X2_play_vt1 vtr vled vmov vt1 (nI c)) (j_X2_play_vp1 vtr vled vmov vp1 vg1 (nI c)) (j_X2_play_vk1 vtr vled vmov vk1 (nI c)) (j_X2_play_vg1 vled vg1) (j_X2_play_vh2 vrow vdrawn vtr vled vmov vh2 (nI c)) (j_X2_play_vt2 vtr vled vmov vt2 (nI c)) (j_X2_play_vp2 vtr vled vmov vp2 vg2 (nI c)) (j_X2_play_vk2 vtr vled vmov vk2 (nI c)) (j_X2_play_vg2 vled vg2) sp f s n' up' := by
  obtain ⟨ur, us, ut, ug, uw, uh, udrawn, uon, uturn, uled, utr, hR, hJ, hn⟩ := h
  have hx : ¬ j_X2_isCard (nI c) = 0 := by rw [zr_isCard hc]; decide
  have hc3 : ¬ j_X3_isCard (nI c) = 0 := hx
  have hwy := (zr_why hR hc).trans hw
  have P := (zp_play hR hx hw).1
  obtain ⟨_, ⟨el, _⟩, _, _, hm, _, hd⟩ := hR
  rcases hm with ⟨_, m1, _⟩ | ⟨m0, m1⟩
  · unfold j_X2_reasonAgainst at hw
    rw [if_pos m1] at hw
    exact absurd hw (by decide)
  rcases hd with ⟨_, d0, _⟩ | ⟨_, t, a, b, E, g, inv, _, ⟨hab, e2⟩, _, ⟨g1, g2, _, _⟩, _⟩
  · rw [m0] at d0; exact absurd d0 (by decide)
  have ha : a < 2 := by omega
  have huc : up c = nI a := zp_leg ha hc g1 g2 (by rw [← e2, ← m1]; exact hw)
  have ln : uled < 0 := by rw [← el, hl]; decide
  have k0 : ∀ v, v < 3 → ¬ v = a → zl_nn (upd up c (nI 3)) v = zl_nn up v := fun v hv hva => zn_keep (y := a) (by omega) (by decide) (by omega) hc huc (by omega) (fun e => hva e.symm)
  have kA : zl_nn (upd up c (nI 3)) a + 1 = zl_nn up a := zn_out (by omega) (by decide) hc huc (by omega)
  have cnt : zl_nn (upd up c (nI 3)) 0 + zl_nn (upd up c (nI 3)) 1 + zl_nn (upd up c (nI 3)) 2 + 1 = zl_nn up 0 + zl_nn up 1 + zl_nn up 2 := by
    have k2 := k0 2 (by decide) (by omega)
    have : a = 0 ∨ a = 1 := by omega
    rcases this with e | e
    · subst e
      have k1 := k0 1 (by decide) (by decide)
      omega
    · subst e
      have k1 := k0 0 (by decide) (by decide)
      omega
  have eU : j_X3_play_uplace up ur udrawn 1 uon uturn uled utr (nI c) = upd up c (nI 3) := by
    simp only [j_X3_play_uplace, if_neg hc3, if_pos hwy, if_pos ln]
    rw [nI_clamp (show c < 2 ^ 31 by omega)]
    rfl
  refine ⟨_, n - 1, by omega, _, _, _, _, _, _, _, _, _, _, _, P, ?_, ?_⟩
  · rw [eU]
    simp only [j_X3_play_upts, j_X3_play_utks, j_X3_play_uwin, j_X3_play_udrawn, j_X3_play_uon, if_neg hc3, if_pos hwy, if_pos ln]
    rw [m0] at hJ ⊢
    exact pq_lead ha hc huc hJ
  · rw [eU]; omega
/-- a trick -/
theorem pq_replyT (h : pq_R vrow vdrawn vtr vled vmov vw1 vw2 vh1 vt1 vp1 vk1 vg1 vh2 vt2 vp2 vk2 vg2 sp f s n up) {c l : Nat} (hc : c < 42) (hw : j_X2_reasonAgainst vdrawn vtr vled vmov vh1 vh2 (nI c) = 0) (hl42 : l < 42) (hl : vled = nI l) :
    ∃ (up' : Nat → Int32) (n' τ : Nat), n' + 1 = n ∧ τ < 2 ∧ j_X2_wouldTake vtr vled vmov (nI c) = nI τ ∧ j_X2_play vtr vled vmov (nI c) = nI τ ∧
      j_X2_points (j_X2_play_vp1 vtr vled vmov vp1 vg1 (nI c)) (j_X2_play_vp2 vtr vled vmov vp2 vg2 (nI c)) (nI τ) = ((j_X2_points vp1 vp2 (nI τ) + pq_val c) + pq_val l) + (if j_X2_gloves vg1 vg2 (nI τ) = 1 then 5 * (pq_m c + pq_m l) else 0) ∧
      j_X2_tricks (j_X2_play_vk1 vtr vled vmov vk1 (nI c)) (j_X2_play_vk2 vtr vled vmov vk2 (nI c)) (nI τ) = j_X2_tricks vk1 vk2 (nI τ) + 1 ∧ (up' c = nI (4 + τ) ∧ up' l = nI (4 + τ)) ∧ (¬ j_X2_play_vg1 vled vg1 = 1 ∧ ¬ j_X2_play_vg2 vled vg2 = 1) ∧
      j_X2_pile (j_X2_play_vdrawn vdrawn vtr vled vmov (nI c)) = (if j_X2_pile vdrawn ≤ 0 then 0 else j_X2_pile vdrawn - 2) ∧ (j_X2_play_vmov vrow vdrawn vtr vled vmov vh1 vh2 (nI c) = (-1) ∨ j_X2_play_vmov vrow vdrawn vtr vled vmov vh1 vh2 (nI c) = nI τ) ∧
      pq_R vrow (j_X2_play_vdrawn vdrawn vtr vled vmov (nI c)) vtr (j_X2_play_vled vled (nI c)) (j_X2_play_vmov vrow vdrawn vtr vled vmov vh1 vh2 (nI c)) (j_X2_play_vw1 vrow vdrawn vtr vled vmov vw1 vh1 vp1 vg1 vh2 vp2 vg2 (nI c)) (j_X2_play_vw2 vrow vdrawn vtr vled vmov vw2 vh1 vp1 vg1 vh2 vp2 vg2 (nI c)) (j_X2_play_vh1 vrow vdrawn vtr vled vmov vh1 (nI c)) (j_X2_play_vt1 vtr vled vmov vt1 (nI c)) (j_X2_play_vp1 vtr vled vmov vp1 vg1 (nI c)) (j_X2_play_vk1 vtr vled vmov vk1 (nI c)) (j_X2_play_vg1 vled vg1) (j_X2_play_vh2 vrow vdrawn vtr vled vmov vh2 (nI c)) (j_X2_play_vt2 vtr vled vmov vt2 (nI c)) (j_X2_play_vp2 vtr vled vmov vp2 vg2 (nI c)) (j_X2_play_vk2 vtr vled vmov vk2 (nI c)) (j_X2_play_vg2 vled vg2) (sp + (if j_X2_gloves vg1 vg2 (nI τ) = 1 then pq_m c + pq_m l else 0)) f s n' up' := by
  obtain ⟨ur, us, ut, ug, uw, uh, udrawn, uon, uturn, uled, utr, hR, hJ, hn⟩ := h
  have hx : ¬ j_X2_isCard (nI c) = 0 := by rw [zr_isCard hc]; decide
  have hc3 : ¬ j_X3_isCard (nI c) = 0 := hx
  have hwy := (zr_why hR hc).trans hw
  have P := (zp_play hR hx hw).1
  have hpA := zr_pileA hR
  have hpB := zr_pileA P
  obtain ⟨⟨_, _, p1, p2, q1, q2, r1, r2⟩, ⟨el, et⟩, _, _, hm, _, hd⟩ := hR
  rcases hm with ⟨_, m1, _⟩ | ⟨m0, m1⟩
  · unfold j_X2_reasonAgainst at hw
    rw [if_pos m1] at hw
    exact absurd hw (by decide)
  rcases hd with ⟨_, d0, _⟩ | ⟨_, t, a, b, E, g, inv, ⟨ht, e1⟩, ⟨hab, e2⟩, ⟨hE, e3, e4⟩, ⟨g1, g2, _, _⟩, _, lo, hr, hp, hn6, hon⟩
  · rw [m0] at d0; exact absurd d0 (by decide)
  have ha : a < 2 := by omega
  have huc : up c = nI a := zp_leg ha hc g1 g2 (by rw [← e2, ← m1]; exact hw)
  have eul : uled = nI l := el.symm.trans hl
  have eut : utr = nI t := et.symm.trans e1
  have ln : ¬ uled < 0 := by rw [eul]; exact nI_pos (by omega)
  have lr : ¬ vled = (-1) := by rw [hl]; exact zs_nm1 l hl42
  have h3 : ∀ d, d < 42 → (up d = nI 3 ↔ d = l) := by
    rcases lo with ⟨e, _⟩ | ⟨l', hl', e, i3⟩
    · exact absurd e lr
    · have : l' = l := (nI_eq (by omega) (by omega)).mp (e.symm.trans hl)
      subst this; exact i3
  obtain ⟨hq, hn1, hn15⟩ := hon m0
  have hnn : zl_nn up a = zl_nn up b + 1 := by
    rcases hq with q | q
    · exact absurd q.1 lr
    · exact q.2
  subst e3; subst m0
  have hab2 : (a = 0 ∧ b = 1) ∨ (a = 1 ∧ b = 0) := by omega
  have F : ∃ τ σ E' : Nat, τ + σ = 1 ∧ (if j_X3_takes (nI t) (nI c) (nI l) = 0 then 1 - nI a else nI a) = nI τ ∧ (j_X3_ends_uplace up ur (nI (2 * E)) 1 (nI a) (nI l) (nI t) (nI c) c = nI (4 + τ) ∧ j_X3_ends_uplace up ur (nI (2 * E)) 1 (nI a) (nI l) (nI t) (nI c) l = nI (4 + τ)) ∧
      (j_X3_ends_udrawn (nI (2 * E)) 1 = nI (2 * E') ∧ E' ≤ 15 ∧ ((E = 15 ∧ E' = 15) ∨ (E < 15 ∧ E' = E + 1))) ∧
      zl_nn (j_X3_ends_uplace up ur (nI (2 * E)) 1 (nI a) (nI l) (nI t) (nI c)) 0 + zl_nn (j_X3_ends_uplace up ur (nI (2 * E)) 1 (nI a) (nI l) (nI t) (nI c)) 1 + zl_nn (j_X3_ends_uplace up ur (nI (2 * E)) 1 (nI a) (nI l) (nI t) (nI c)) 2 + 1 ≤ zl_nn up 0 + zl_nn up 1 + zl_nn up 2 ∧
      (j_X3_ends_upts us ug (nI a) (nI l) (nI t) (nI c) τ = ((us τ + pq_val c) + pq_val l) + (if ug τ = 1 then 5 * (pq_m c + pq_m l) else 0)) ∧ j_X3_ends_utks ut (nI a) (nI l) (nI t) (nI c) τ = ut τ + 1 ∧
      pq_J (j_X3_ends_uplace up ur (nI (2 * E)) 1 (nI a) (nI l) (nI t) (nI c)) (j_X3_ends_upts us ug (nI a) (nI l) (nI t) (nI c)) (j_X3_ends_utks ut (nI a) (nI l) (nI t) (nI c)) (j_X3_ends_uwin up ur us ug uw (nI (2 * E)) 1 (nI a) (nI l) (nI t) (nI c)) (j_X3_ends_udrawn (nI (2 * E)) 1) (j_X3_ends_uon up ur (nI (2 * E)) 1 1 (nI a) (nI l) (nI t) (nI c)) (sp + (if ug τ = 1 then pq_m c + pq_m l else 0)) f s := by
    rcases hab2 with ⟨a1, a2⟩ | ⟨a1, a2⟩
    · subst a1; subst a2
      exact pq_fin ht hab hE hl42 hc hr hp h3 huc (fun w h1 h2 => zh_out (by decide) h1 (by omega) hc g1) (fun w h1 h2 => zh_keep (by decide) h1 (by omega) (by rw [huc]; decide) g2) hnn hn6.1 hn15 hJ
    · subst a1; subst a2
      exact pq_fin ht hab hE hl42 hc hr hp h3 huc (fun w h1 h2 => zh_keep (by decide) h1 (by omega) (by rw [huc]; decide) g1) (fun w h1 h2 => zh_out (by decide) h1 (by omega) hc g2) hnn hn6.2 hn15 hJ
  obtain ⟨τ, σ, E', hτ, Tm, hup, ⟨eD, hE', cse⟩, hcnt, hpts, htks, hJ'⟩ := F
  have hτ2 : τ < 2 := by omega
  have Tc : j_X2_takerBy vtr vled vmov (nI c) = nI τ := by
    rw [e1, hl, m1, e2]
    exact (zr_taker ht hl42 hc).trans Tm
  have G : j_X2_gloves vg1 vg2 (nI τ) = ug τ := pq_sel r1 r2 hτ2
  have eP : j_X3_play_uplace up ur (nI (2 * E)) 1 1 uturn uled utr (nI c) = j_X3_ends_uplace up ur (nI (2 * E)) 1 (nI a) (nI l) (nI t) (nI c) := by
    simp only [j_X3_play_uplace, if_neg hc3, if_pos hwy, if_neg ln]
    rw [e2, eul, eut]
  have eS : j_X3_play_upts up us ug (nI (2 * E)) 1 1 uturn uled utr (nI c) = j_X3_ends_upts us ug (nI a) (nI l) (nI t) (nI c) := by
    simp only [j_X3_play_upts, if_neg hc3, if_pos hwy, if_neg ln]
    rw [e2, eul, eut]
  have eT : j_X3_play_utks up ut (nI (2 * E)) 1 1 uturn uled utr (nI c) = j_X3_ends_utks ut (nI a) (nI l) (nI t) (nI c) := by
    simp only [j_X3_play_utks, if_neg hc3, if_pos hwy, if_neg ln]
    rw [e2, eul, eut]
  have eW : j_X3_play_uwin up ur us ug uw (nI (2 * E)) 1 1 uturn uled utr (nI c) = j_X3_ends_uwin up ur us ug uw (nI (2 * E)) 1 (nI a) (nI l) (nI t) (nI c) := by
    simp only [j_X3_play_uwin, if_neg hc3, if_pos hwy, if_neg ln]
    rw [e2, eul, eut]
  have eDr : j_X3_play_udrawn up (nI (2 * E)) 1 1 uturn uled utr (nI c) = j_X3_ends_udrawn (nI (2 * E)) 1 := by
    simp only [j_X3_play_udrawn, if_neg hc3, if_pos hwy, if_neg ln]
  have eO : j_X3_play_uon up ur (nI (2 * E)) 1 1 uturn uled utr (nI c) = j_X3_ends_uon up ur (nI (2 * E)) 1 1 (nI a) (nI l) (nI t) (nI c) := by
    simp only [j_X3_play_uon, if_neg hc3, if_pos hwy, if_neg ln]
    rw [e2, eul, eut]
  have eTu : j_X3_play_uturn up (nI (2 * E)) 1 1 uturn uled utr (nI c) = nI τ := by
    simp only [j_X3_play_uturn, if_neg hc3, if_pos hwy, if_neg ln]
    rw [e2, eul, eut]
    exact Tm
  obtain ⟨⟨_, _, b1, b2, b3, b4, _, _⟩, _, _, _, hm2, _, _⟩ := id P
  refine ⟨_, n - 1, τ, by omega, hτ2, Tc, ?_, ?_, ?_, ⟨?_, ?_⟩, ⟨?_, ?_⟩, ?_, ?_, _, _, _, _, _, _, _, _, _, _, _, P, ?_, ?_⟩
  · unfold j_X2_play
    rw [if_neg lr]
    exact Tc
  · have x1 : j_X2_points (j_X2_play_vp1 vtr vled vmov vp1 vg1 (nI c)) (j_X2_play_vp2 vtr vled vmov vp2 vg2 (nI c)) (nI τ) = j_X3_ends_upts us ug (nI a) (nI l) (nI t) (nI c) τ := pq_sel (b1.trans (by rw [eS])) (b2.trans (by rw [eS])) hτ2
    have x2 : j_X2_points vp1 vp2 (nI τ) = us τ := pq_sel p1 p2 hτ2
    rw [x1, x2, G]
    exact hpts
  · have x1 : j_X2_tricks (j_X2_play_vk1 vtr vled vmov vk1 (nI c)) (j_X2_play_vk2 vtr vled vmov vk2 (nI c)) (nI τ) = j_X3_ends_utks ut (nI a) (nI l) (nI t) (nI c) τ := pq_sel (b3.trans (by rw [eT])) (b4.trans (by rw [eT])) hτ2
    have x2 : j_X2_tricks vk1 vk2 (nI τ) = ut τ := pq_sel q1 q2 hτ2
    rw [x1, x2]
    exact htks
  · rw [eP]; exact hup.1
  · rw [eP]; exact hup.2
  · unfold j_X2_play_vg1
    rw [if_neg lr]
    unfold j_X2_finishTrick_vg1 j_X0_loseWornGloves_vg
    by_cases q : vg1 = 1
    · rw [if_pos q]; decide
    · rw [if_neg q]; exact q
  · unfold j_X2_play_vg2
    rw [if_neg lr]
    unfold j_X2_finishTrick_vg2 j_X0_loseWornGloves_vg
    by_cases q : vg2 = 1
    · rw [if_pos q]; decide
    · rw [if_neg q]; exact q
  · have y1 : j_X2_pile vdrawn = nI (30 - 2 * E) := hpA.trans (zr_pile hE)
    have y2 : j_X2_pile (j_X2_play_vdrawn vdrawn vtr vled vmov (nI c)) = nI (30 - 2 * E') := by
      rw [hpB, eDr, eD]
      exact zr_pile hE'
    rw [y1, y2]
    rcases cse with ⟨z1, z2⟩ | ⟨z1, z2⟩
    · subst z1; subst z2
      rw [if_pos (by decide)]; rfl
    · have np : ¬ nI (30 - 2 * E) ≤ 0 := nI_nle (by omega) (by omega)
      rw [if_neg np, show (2 : Int32) = nI 2 from rfl, pk_sub (by omega)]
      congr 1
      omega
  · rcases hm2 with ⟨_, w, _⟩ | ⟨_, w⟩
    · exact Or.inl w
    · exact Or.inr (w.trans eTu)
  · rw [eP, eS, eT, eW, eDr, eO, G]
    exact hJ'
  · rw [eP]; omega
theorem pq_init : zr_R (fun _ => 0) 42 (-1) (-1) (-1) 0 0 0 0 0 0 0 0 0 0 0 0 (fun _ => 0) (fun _ => 0) (fun _ => 0) (fun _ => 0) (fun _ => 0) (fun _ => 0) (fun _ => 0) 0 0 0 0 (-1) (-1) := by
  have v0 : vp_in 0 42 := by unfold vp_in; decide
  exact ⟨⟨rfl, rfl, rfl, rfl, rfl, rfl, rfl, rfl⟩, ⟨rfl, rfl⟩, fun _ _ => v0, Or.inl rfl, Or.inl ⟨rfl, rfl, rfl⟩, fun _ _ => v0, Or.inl ⟨rfl, rfl, rfl, rfl, rfl, rfl, rfl⟩⟩
end PS
