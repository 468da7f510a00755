/-! A TRICK IS TAKEN -/
theorem zi_tot {a b : Int32} (h : ¬ a ≤ b) : b ≤ a := by
  have : ¬ a.toInt ≤ b.toInt := fun e => h (Int32.le_iff_toInt_le.mpr e)
  exact Int32.le_iff_toInt_le.mpr (by omega)
theorem zp_glv (ug : Nat → Int32) : j_X3_ends_uglv ug 0 = j_X0_loseWornGloves_vg (ug 0) ∧ j_X3_ends_uglv ug 1 = j_X0_loseWornGloves_vg (ug 1) := by
  unfold j_X3_ends_uglv j_X0_loseWornGloves_vg
  rw [zr_c0, zr_c1]
  constructor
  · rw [pk_un (by decide), pk_us]
  · rw [pk_us, pk_un (by decide)]
theorem zp_pts {us ug : Nat → Int32} {t a l c τ : Nat} {vp1 vp2 vg1 vg2 : Int32} (hτ : τ < 2) (Tm : (if j_X3_takes (nI t) (nI c) (nI l) = 0 then 1 - nI a else nI a) = nI τ) (Tc : j_X2_takerBy (nI t) (nI l) (nI a) (nI c) = nI τ) (p1 : vp1 = us 0) (p2 : vp2 = us 1) (q1 : vg1 = ug 0) (q2 : vg2 = ug 1) :
    j_X2_finishTrick_vp1 (nI t) (nI l) (nI a) vp1 vg1 (nI c) = j_X3_ends_upts us ug (nI a) (nI l) (nI t) (nI c) 0 ∧ j_X2_finishTrick_vp2 (nI t) (nI l) (nI a) vp2 vg2 (nI c) = j_X3_ends_upts us ug (nI a) (nI l) (nI t) (nI c) 1 := by
  subst p1; subst p2; subst q1; subst q2
  unfold j_X2_finishTrick_vp1 j_X2_finishTrick_vp2 j_X3_ends_upts
  rw [Tc, Tm, nI_clamp (by omega)]
  have : τ = 0 ∨ τ = 1 := by omega
  rcases this with e | e
  · subst e
    have c0 : nI 0 = 0 := by decide
    rw [if_pos c0, if_pos c0, pk_us, pk_un (by decide)]
    refine ⟨?_, rfl⟩
    by_cases g : ug 0 = 1
    · rw [if_pos g, if_pos g, zm_worth, zm_worth, Int32.add_comm (j_X2_worth (nI l) 1)]
    · rw [if_neg g, if_neg g, zm_worth, zm_worth, Int32.add_comm (j_X2_worth (nI l) 0)]
  · subst e
    have c0 : ¬ nI 1 = 0 := by decide
    rw [if_neg c0, if_neg c0, pk_un (by decide), pk_us]
    refine ⟨rfl, ?_⟩
    by_cases g : ug 1 = 1
    · rw [if_pos g, if_pos g, zm_worth, zm_worth, Int32.add_comm (j_X2_worth (nI l) 1)]
    · rw [if_neg g, if_neg g, zm_worth, zm_worth, Int32.add_comm (j_X2_worth (nI l) 0)]
theorem zp_tks {ut : Nat → Int32} {t a l c τ : Nat} {vk1 vk2 : Int32} (hτ : τ < 2) (Tm : (if j_X3_takes (nI t) (nI c) (nI l) = 0 then 1 - nI a else nI a) = nI τ) (Tc : j_X2_takerBy (nI t) (nI l) (nI a) (nI c) = nI τ) (p1 : vk1 = ut 0) (p2 : vk2 = ut 1) :
    j_X2_finishTrick_vk1 (nI t) (nI l) (nI a) vk1 (nI c) = j_X3_ends_utks ut (nI a) (nI l) (nI t) (nI c) 0 ∧ j_X2_finishTrick_vk2 (nI t) (nI l) (nI a) vk2 (nI c) = j_X3_ends_utks ut (nI a) (nI l) (nI t) (nI c) 1 := by
  subst p1; subst p2
  unfold j_X2_finishTrick_vk1 j_X2_finishTrick_vk2 j_X3_ends_utks
  rw [Tc, Tm, nI_clamp (by omega)]
  have : τ = 0 ∨ τ = 1 := by omega
  rcases this with e | e
  · subst e
    rw [if_pos (by decide), if_pos (by decide), pk_us, pk_un (by decide)]
    exact ⟨rfl, rfl⟩
  · subst e
    rw [if_neg (by decide), if_neg (by decide), pk_un (by decide), pk_us]
    exact ⟨rfl, rfl⟩
section ZP
variable {vrow : Nat → Int32} {vw1 vw2 : Int32} {vt1 : Int64} {vp1 vk1 vg1 : Int32} {vt2 : Int64} {vp2 vk2 vg2 : Int32} {up ur us ut ug uw uh : Nat → Int32}
theorem zp_fin {t a b l c E : Nat} {g inv : Nat → Nat} {k1 k2 : Int64} (ht : t < 4) (hab : a + b = 1) (hE : E ≤ 15) (hl : l < 42) (hc : c < 42) (hr : zr_row vrow ur g inv) (hur : ∀ j, j < 42 → vp_in (ur j) 42) (hp : ∀ j, 12 + 2 * E ≤ j → j < 42 → up (g (zr_s j)) = nI 2) (hpl : ∀ c, c < 42 → ∃ v, v < 6 ∧ up c = nI v) (h3 : ∀ c, c < 42 → (up c = nI 3 ↔ c = l)) (huc : up c = nI a)
    (hk1 : ∀ w, w < 6 → 4 ≤ w → zr_hand (upd up c (nI w)) 0 k1) (hk2 : ∀ w, w < 6 → 4 ≤ w → zr_hand (upd up c (nI w)) 1 k2) (g4 : zr_hand up 4 vt1) (g5 : zr_hand up 5 vt2) (hn : zl_nn up a = zl_nn up b + 1) (hn6 : zl_nn up a ≤ 6) (hn15 : E < 15 → zl_nn up a = 6)
    (hs : vw1 = uw 0 ∧ vw2 = uw 1 ∧ vp1 = us 0 ∧ vp2 = us 1 ∧ vk1 = ut 0 ∧ vk2 = ut 1 ∧ vg1 = ug 0 ∧ vg2 = ug 1) (hh : ∀ j, j < 12 → vp_in (uh j) 42) :
    zr_R vrow (j_X2_finishTrick_vdrawn (nI (12 + 2 * E)) (nI t) (nI l) (nI a) (nI c)) (nI t) (-1) (j_X2_finishTrick_vmov vrow (nI (12 + 2 * E)) (nI t) (nI l) (nI a) k1 k2 (nI c)) (j_X2_finishTrick_vw1 vrow (nI (12 + 2 * E)) (nI t) (nI l) (nI a) vw1 k1 vp1 vg1 k2 vp2 vg2 (nI c)) (j_X2_finishTrick_vw2 vrow (nI (12 + 2 * E)) (nI t) (nI l) (nI a) vw2 k1 vp1 vg1 k2 vp2 vg2 (nI c)) (j_X2_finishTrick_vh1 vrow (nI (12 + 2 * E)) (nI t) (nI l) (nI a) k1 (nI c)) (j_X2_finishTrick_vt1 (nI t) (nI l) (nI a) vt1 (nI c)) (j_X2_finishTrick_vp1 (nI t) (nI l) (nI a) vp1 vg1 (nI c)) (j_X2_finishTrick_vk1 (nI t) (nI l) (nI a) vk1 (nI c)) (j_X2_finishTrick_vg1 vg1) (j_X2_finishTrick_vh2 vrow (nI (12 + 2 * E)) (nI t) (nI l) (nI a) k2 (nI c)) (j_X2_finishTrick_vt2 (nI t) (nI l) (nI a) vt2 (nI c)) (j_X2_finishTrick_vp2 (nI t) (nI l) (nI a) vp2 vg2 (nI c)) (j_X2_finishTrick_vk2 (nI t) (nI l) (nI a) vk2 (nI c)) (j_X2_finishTrick_vg2 vg2) (j_X3_ends_uplace up ur (nI (2 * E)) 1 (nI a) (nI l) (nI t) (nI c)) ur (j_X3_ends_upts us ug (nI a) (nI l) (nI t) (nI c)) (j_X3_ends_utks ut (nI a) (nI l) (nI t) (nI c)) (j_X3_ends_uglv ug) (j_X3_ends_uwin up ur us ug uw (nI (2 * E)) 1 (nI a) (nI l) (nI t) (nI c)) uh (j_X3_ends_udrawn (nI (2 * E)) 1) 1 (j_X3_ends_uon up ur (nI (2 * E)) 1 1 (nI a) (nI l) (nI t) (nI c)) (j_X3_ends_uturn (nI a) (nI l) (nI t) (nI c)) (-1) (nI t) := by
  obtain ⟨w1, w2, p1, p2, n1, n2, q1, q2⟩ := hs
  obtain ⟨τ, σ, hτ, Tm⟩ : ∃ τ σ, τ + σ = 1 ∧ (if j_X3_takes (nI t) (nI c) (nI l) = 0 then 1 - nI a else nI a) = nI τ := by
    by_cases q : j_X3_takes (nI t) (nI c) (nI l) = 0
    · exact ⟨b, a, by omega, by rw [if_pos q, zm_fl hab]⟩
    · exact ⟨a, b, hab, by rw [if_neg q]⟩
  have Tc : j_X2_takerBy (nI t) (nI l) (nI a) (nI c) = nI τ := (zr_taker ht hl hc).trans Tm
  have hτ2 : τ < 2 := by omega
  have T01 : j_X2_takerBy (nI t) (nI l) (nI a) (nI c) = 0 ∨ j_X2_takerBy (nI t) (nI l) (nI a) (nI c) = 1 := by
    rw [Tc]
    have : τ = 0 ∨ τ = 1 := by omega
    rcases this with e | e
    · subst e; exact Or.inl (by decide)
    · subst e; exact Or.inr (by decide)
  have ul : up l = nI 3 := (h3 l hl).mpr rfl
  have hcl : ¬ l = c := by
    intro e
    rw [e, huc] at ul
    have := (zn_nI (v := 3) (w := a) (by decide) (by omega)).mp ul
    omega
  have hab2 : (a = 0 ∧ b = 1) ∨ (a = 1 ∧ b = 0) := by omega
  -- behind the trick, ahead of the draws
  have u1l : (upd up c (nI (4 + τ))) l = nI 3 := by rw [pk_un hcl]; exact ul
  have f1 : zr_hand (upd (upd up c (nI (4 + τ))) l (nI (4 + τ))) 0 k1 := zh_keep (by decide) (by omega) (by omega) (by rw [u1l]; decide) (hk1 (4 + τ) (by omega) (by omega))
  have f2 : zr_hand (upd (upd up c (nI (4 + τ))) l (nI (4 + τ))) 1 k2 := zh_keep (by decide) (by omega) (by omega) (by rw [u1l]; decide) (hk2 (4 + τ) (by omega) (by omega))
  have cn : ∀ v, 4 ≤ v → v < 6 → ¬ up c = nI v := fun v h1 h2 e => by
    rw [huc] at e
    have := (zn_nI (v := v) (w := a) h2 (by omega)).mp e
    omega
  have f4 : zr_hand (upd (upd up c (nI (4 + τ))) l (nI (4 + τ))) 4 (j_X2_finishTrick_vt1 (nI t) (nI l) (nI a) vt1 (nI c)) := by
    unfold j_X2_finishTrick_vt1
    rw [Tc]
    have : τ = 0 ∨ τ = 1 := by omega
    rcases this with e | e
    · subst e
      rw [if_pos (by decide), zs_or2 _ hl hc]
      exact zh_put hl (zh_put hc g4)
    · subst e
      rw [if_neg (by decide)]
      exact zh_keep (by decide) (by decide) (by decide) (by rw [u1l]; decide) (zh_keep (by decide) (by decide) (by decide) (cn 4 (by decide) (by decide)) g4)
  have f5 : zr_hand (upd (upd up c (nI (4 + τ))) l (nI (4 + τ))) 5 (j_X2_finishTrick_vt2 (nI t) (nI l) (nI a) vt2 (nI c)) := by
    unfold j_X2_finishTrick_vt2
    rw [Tc]
    have : τ = 0 ∨ τ = 1 := by omega
    rcases this with e | e
    · subst e
      rw [if_pos (by decide)]
      exact zh_keep (by decide) (by decide) (by decide) (by rw [u1l]; decide) (zh_keep (by decide) (by decide) (by decide) (cn 5 (by decide) (by decide)) g5)
    · subst e
      rw [if_neg (by decide), zs_or2 _ hl hc]
      exact zh_put hl (zh_put hc g5)
  have f6 : ∀ d, d < 42 → ∃ v, v < 6 ∧ (upd (upd up c (nI (4 + τ))) l (nI (4 + τ))) d = nI v ∧ ¬ v = 3 := by
    intro d hd
    by_cases e : d = l
    · subst e; exact ⟨4 + τ, by omega, pk_us, by omega⟩
    · rw [pk_un e]
      by_cases e2 : d = c
      · subst e2; exact ⟨4 + τ, by omega, pk_us, by omega⟩
      · rw [pk_un e2]
        obtain ⟨v, hv, u⟩ := hpl d hd
        exact ⟨v, hv, u, fun z => e ((h3 d hd).mp (by rw [u, z]))⟩
  have m1 : ∀ v, v < 2 → zl_nn (upd (upd up c (nI (4 + τ))) l (nI (4 + τ))) v = zl_nn (upd up c (nI (4 + τ))) v := fun v hv => zn_keep (y := 3) (by omega) (by omega) (by decide) hl u1l (by omega) (by omega)
  have mA : zl_nn (upd up c (nI (4 + τ))) a + 1 = zl_nn up a := zn_out (by omega) (by omega) hc huc (by omega)
  have mB : zl_nn (upd up c (nI (4 + τ))) b = zl_nn up b := zn_keep (y := a) (by omega) (by omega) (by omega) hc huc (by omega) (by omega)
  have f7 : zl_nn (upd (upd up c (nI (4 + τ))) l (nI (4 + τ))) 0 = zl_nn (upd (upd up c (nI (4 + τ))) l (nI (4 + τ))) 1 ∧ zl_nn (upd (upd up c (nI (4 + τ))) l (nI (4 + τ))) 0 + 1 = zl_nn up a := by
    rw [m1 0 (by decide), m1 1 (by decide)]
    rcases hab2 with ⟨e1, e2⟩ | ⟨e1, e2⟩
    · subst e1; subst e2; omega
    · subst e1; subst e2; omega
  have f8 : ∀ j, 12 + 2 * E ≤ j → j < 42 → (upd (upd up c (nI (4 + τ))) l (nI (4 + τ))) (g (zr_s j)) = nI 2 := by
    intro j h1 h2
    have u := hp j h1 h2
    have x1 : ¬ g (zr_s j) = l := fun e => by rw [e, ul] at u; exact absurd u (by decide)
    have x2 : ¬ g (zr_s j) = c := fun e => by
      rw [e, huc] at u
      have := (zn_nI (v := 2) (w := a) (by decide) (by omega)).mp u
      omega
    rw [pk_un x1, pk_un x2]
    exact u
  obtain ⟨U, H1, H2, E', ⟨eU, eD, hE'⟩, cA, cB, F1, F2, F3, F4, F5, F6, F7⟩ := zp_draw hτ hE hr f8 f1 f2 f7.1 (fun h => by have := hn15 h; omega) (by omega)
  have eUp : j_X3_ends_uplace up ur (nI (2 * E)) 1 (nI a) (nI l) (nI t) (nI c) = U := by
    unfold j_X3_ends_uplace
    have e4 : (4 : Int32) + nI τ = nI (4 + τ) := nI_add 4 τ
    rw [Tm, e4, nI_clamp (show c < 2 ^ 31 by omega), nI_clamp (show l < 2 ^ 31 by omega), zm_fl hτ]
    exact eU
  have eDr : j_X3_ends_udrawn (nI (2 * E)) 1 = nI (2 * E') := eD
  have eTu : j_X3_ends_uturn (nI a) (nI l) (nI t) (nI c) = nI τ := Tm
  have cH : j_X2_finishTrick_vh1 vrow (nI (12 + 2 * E)) (nI t) (nI l) (nI a) k1 (nI c) = H1 ∧ j_X2_finishTrick_vh2 vrow (nI (12 + 2 * E)) (nI t) (nI l) (nI a) k2 (nI c) = H2 ∧ j_X2_finishTrick_vdrawn (nI (12 + 2 * E)) (nI t) (nI l) (nI a) (nI c) = nI (12 + 2 * E') := by
    unfold j_X2_finishTrick_vh1 j_X2_finishTrick_vh2 j_X2_finishTrick_vdrawn
    rw [Tc]
    have : τ = 0 ∨ τ = 1 := by omega
    rcases this with e | e
    · obtain ⟨y1, y2, y3⟩ := cA e
      subst e
      rw [if_pos (by decide), if_neg (by decide), if_pos (by decide), if_neg (by decide), if_pos (by decide), if_neg (by decide)]
      exact ⟨y1, y2, y3⟩
    · obtain ⟨y1, y2, y3⟩ := cB e
      subst e
      rw [if_neg (by decide), if_pos (by decide), if_neg (by decide), if_pos (by decide), if_neg (by decide), if_pos (by decide)]
      exact ⟨y1, y2, y3⟩
  obtain ⟨cH1, cH2, cD⟩ := cH
  obtain ⟨ov1, ov2⟩ := zp_over F1 F2 F5
  have P := zp_pts (us := us) (ug := ug) hτ2 Tm Tc p1 p2 q1 q2
  have K := zp_tks (ut := ut) hτ2 Tm Tc n1 n2
  have G := zp_glv ug
  rw [zp_w1 T01, zp_w2 T01, zp_m T01, zp_uw, zp_uo, cH1, cH2, cD, eUp, eDr, eTu, Tc, zr_c0, zr_c1]
  have noU3 : ∀ d, d < 42 → ¬ U d = nI 3 := by
    intro d hd e
    rcases F3 d hd with u | ⟨_, u | u⟩
    · obtain ⟨v, hv, x, n⟩ := f6 d hd
      rw [u, x] at e
      exact n ((zn_nI (v := 3) (w := v) (by decide) hv).mp e)
    · rw [u] at e; exact absurd e (by decide)
    · rw [u] at e; exact absurd e (by decide)
  have far : ∀ v, v = 4 ∨ v = 5 → ∀ h : Int64, zr_hand (upd (upd up c (nI (4 + τ))) l (nI (4 + τ))) v h → zr_hand U v h := by
    intro v hv h hh d
    rw [hh]
    by_cases hd : d < 42
    · rcases F3 d hd with u | ⟨u0, u⟩
      · simp [zl_p, u]
      · have z1 : ¬ (upd (upd up c (nI (4 + τ))) l (nI (4 + τ))) d = nI v := by
          rw [u0]
          intro z
          have := (zn_nI (v := v) (w := 2) (by omega) (by decide)).mp z
          omega
        have z2 : ¬ U d = nI v := by
          intro z
          rcases u with u | u
          · rw [u] at z
            have := (zn_nI (v := v) (w := 0) (by omega) (by decide)).mp z
            omega
          · rw [u] at z
            have := (zn_nI (v := v) (w := 1) (by omega) (by decide)).mp z
            omega
        simp [zl_p, z1, z2]
    · simp [hd]
  have plU : ∀ d, d < 42 → ∃ v, v < 6 ∧ U d = nI v := by
    intro d hd
    rcases F3 d hd with u | ⟨_, u | u⟩
    · obtain ⟨v, hv, x, _⟩ := f6 d hd
      exact ⟨v, hv, by rw [u]; exact x⟩
    · exact ⟨0, by decide, u⟩
    · exact ⟨1, by decide, u⟩
  have nU : ∀ v, v < 2 → zl_nn U v = zl_nn U 0 := by
    intro v hv
    have : v = 0 ∨ v = 1 := by omega
    rcases this with e | e
    · rw [e]
    · rw [e]; exact F5.symm
  have hD : ∀ on : Int32, (on = 1 → ¬ zl_nn U 0 = 0) → zr_D vrow ur U (nI (12 + 2 * E')) (nI t) (-1) H1 (j_X2_finishTrick_vt1 (nI t) (nI l) (nI a) vt1 (nI c)) H2 (j_X2_finishTrick_vt2 (nI t) (nI l) (nI a) vt2 (nI c)) (nI (2 * E')) on (nI τ) := by
    intro on hon
    refine ⟨t, τ, σ, E', g, inv, ⟨ht, rfl⟩, ⟨hτ, rfl⟩, ⟨hE', rfl, rfl⟩, ⟨F1, F2, far 4 (Or.inl rfl) _ f4, far 5 (Or.inr rfl) _ f5⟩, plU, Or.inl ⟨rfl, noU3⟩, hr, F4, ⟨F6, by rw [← F5]; exact F6⟩, fun e => ?_⟩
    have := hon e
    rw [nU τ hτ2, nU σ (by omega)]
    exact ⟨Or.inl ⟨rfl, rfl⟩, by omega, F7⟩
  have ur01 : nI τ = 0 ∨ nI τ = 1 := by rw [← Tc]; exact T01
  by_cases z : zl_nn U 0 = 0
  · rw [if_pos (ov1.mpr z), if_pos (ov1.mpr z), if_pos (ov1.mpr z), if_pos (ov2.mpr z), if_pos (ov2.mpr z)]
    refine ⟨⟨?_, ?_, P.1, P.2, K.1, K.2, by rw [q1]; exact G.1.symm, by rw [q2]; exact G.2.symm⟩, ⟨rfl, rfl⟩, hh, ur01, Or.inl ⟨rfl, rfl, rfl⟩, hur, Or.inr ⟨rfl, hD 0 (fun e => absurd e (by decide))⟩⟩
    · rw [pk_un (by decide), pk_us, ← P.1, ← P.2, ← w1]
      unfold j_X2_endGame_vw1
      by_cases y : j_X2_finishTrick_vp1 (nI t) (nI l) (nI a) vp1 vg1 (nI c) ≤ j_X2_finishTrick_vp2 (nI t) (nI l) (nI a) vp2 vg2 (nI c)
      · rw [if_pos y, if_pos y, Int32.add_zero]
      · rw [if_neg y, if_neg y]
    · rw [pk_us, pk_un (by decide), ← P.1, ← P.2, ← w2]
      unfold j_X2_endGame_vw2
      by_cases y : j_X2_finishTrick_vp1 (nI t) (nI l) (nI a) vp1 vg1 (nI c) ≤ j_X2_finishTrick_vp2 (nI t) (nI l) (nI a) vp2 vg2 (nI c)
      · rw [if_pos y]
        by_cases x : j_X2_finishTrick_vp2 (nI t) (nI l) (nI a) vp2 vg2 (nI c) ≤ j_X2_finishTrick_vp1 (nI t) (nI l) (nI a) vp1 vg1 (nI c)
        · rw [if_pos x, if_pos x, Int32.add_zero]
        · rw [if_neg x, if_neg x]
      · rw [if_neg y, if_pos (zi_tot y), Int32.add_zero]
  · rw [if_neg (fun e => z (ov1.mp e)), if_neg (fun e => z (ov1.mp e)), if_neg (fun e => z (ov1.mp e)), if_neg (fun e => z (ov2.mp e)), if_neg (fun e => z (ov2.mp e))]
    exact ⟨⟨w1, w2, P.1, P.2, K.1, K.2, by rw [q1]; exact G.1.symm, by rw [q2]; exact G.2.symm⟩, ⟨rfl, rfl⟩, hh, ur01, Or.inr ⟨rfl, rfl⟩, hur, Or.inr ⟨rfl, hD 1 (fun _ => z)⟩⟩
end ZP
