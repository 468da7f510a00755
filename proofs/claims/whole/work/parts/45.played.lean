/-! PLAY: led or answered, both sides -/
section ZP
variable {vrow : Nat → Int32} {vdrawn vtr vled vmov vw1 vw2 : Int32} {vh1 vt1 : Int64} {vp1 vk1 vg1 : Int32} {vh2 vt2 : Int64} {vp2 vk2 vg2 : Int32} {up ur us ut ug uw uh : Nat → Int32} {udrawn udealt uon uturn uled utr : Int32}
theorem zp_lead {t a b c E : Nat} {g inv : Nat → Nat} {k1 k2 : Int64} (ht : t < 4) (hab : a + b = 1) (hE : E ≤ 15) (hc : c < 42) (hr : zr_row vrow ur g inv) (hur : ∀ j, j < 42 → vp_in (ur j) 42) (hp : ∀ j, 12 + 2 * E ≤ j → j < 42 → up (g (zr_s j)) = nI 2) (hpl : ∀ c, c < 42 → ∃ v, v < 6 ∧ up c = nI v) (h3 : ∀ c, c < 42 → ¬ up c = nI 3) (huc : up c = nI a)
    (hk1 : zr_hand (upd up c (nI 3)) 0 k1) (hk2 : zr_hand (upd up c (nI 3)) 1 k2) (g4 : zr_hand up 4 vt1) (g5 : zr_hand up 5 vt2) (hn : zl_nn up a = zl_nn up b) (hn1 : 1 ≤ zl_nn up a) (hn6 : zl_nn up 0 ≤ 6 ∧ zl_nn up 1 ≤ 6) (hn15 : E < 15 → zl_nn up a = 6)
    (hs : vw1 = uw 0 ∧ vw2 = uw 1 ∧ vp1 = us 0 ∧ vp2 = us 1 ∧ vk1 = ut 0 ∧ vk2 = ut 1 ∧ vg1 = ug 0 ∧ vg2 = ug 1) (hh : ∀ j, j < 12 → vp_in (uh j) 42) :
    zr_R vrow (nI (12 + 2 * E)) (nI t) (nI c) (1 - nI a) vw1 vw2 k1 vt1 vp1 vk1 vg1 k2 vt2 vp2 vk2 vg2 (upd up (nI c).toNatClampNeg 3) ur us ut ug uw uh (nI (2 * E)) 1 1 (1 - nI a) (nI c) (nI t) := by
  rw [nI_clamp (show c < 2 ^ 31 by omega), zm_fl hab, show (3 : Int32) = nI 3 from rfl]
  have hb01 : nI b = 0 ∨ nI b = 1 := by
    have : b = 0 ∨ b = 1 := by omega
    rcases this with e | e
    · subst e; exact Or.inl (by decide)
    · subst e; exact Or.inr (by decide)
  have hab2 : (a = 0 ∧ b = 1) ∨ (a = 1 ∧ b = 0) := by omega
  have mA : zl_nn (upd up c (nI 3)) a + 1 = zl_nn up a := zn_out (by omega) (by decide) hc huc (by omega)
  have mB : zl_nn (upd up c (nI 3)) b = zl_nn up b := zn_keep (y := a) (by omega) (by decide) (by omega) hc huc (by omega) (by omega)
  have cn : ∀ v, 4 ≤ v → v < 6 → ¬ up c = nI v := fun v h1 h2 e => by
    rw [huc] at e
    have := (zn_nI (v := v) (w := a) h2 (by omega)).mp e
    omega
  refine ⟨hs, ⟨rfl, rfl⟩, hh, hb01, Or.inr ⟨rfl, rfl⟩, hur, Or.inr ⟨rfl, t, b, a, E, g, inv, ⟨ht, rfl⟩, ⟨by omega, rfl⟩, ⟨hE, rfl, rfl⟩, ⟨hk1, hk2, zh_keep (by decide) (by decide) (by decide) (cn 4 (by decide) (by decide)) g4, zh_keep (by decide) (by decide) (by decide) (cn 5 (by decide) (by decide)) g5⟩, fun d hd => ?_, Or.inr ⟨c, hc, rfl, fun d hd => ?_⟩, hr, fun j h1 h2 => ?_, ?_, fun _ => ⟨Or.inr ⟨zs_nm1 c hc, by omega⟩, by omega, fun h => by have := hn15 h; omega⟩⟩⟩
  · by_cases e : d = c
    · subst e; exact ⟨3, by decide, pk_us⟩
    · rw [pk_un e]; exact hpl d hd
  · by_cases e : d = c
    · subst e; exact ⟨fun _ => rfl, fun _ => pk_us⟩
    · rw [pk_un e]; exact ⟨fun u => absurd u (h3 d hd), fun u => absurd u e⟩
  · have u := hp j h1 h2
    have x : ¬ g (zr_s j) = c := fun e => by
      rw [e, huc] at u
      have := (zn_nI (v := 2) (w := a) (by decide) (by omega)).mp u
      omega
    rw [pk_un x]; exact u
  · rcases hab2 with ⟨e1, e2⟩ | ⟨e1, e2⟩
    · subst e1; subst e2; omega
    · subst e1; subst e2; omega
theorem zp_leg {a c : Nat} (ha : a < 2) (hc : c < 42) (h1 : zr_hand up 0 vh1) (h2 : zr_hand up 1 vh2) (h : j_X2_reasonAgainst vdrawn vtr vled (nI a) vh1 vh2 (nI c) = 0) : up c = nI a := by
  have m := zr_mh ha h1 h2
  unfold j_X2_reasonAgainst at h
  rw [if_neg (zs_nm1 a (by omega))] at h
  by_cases q : j_X2_has (j_X2_moversHand (nI a) vh1 vh2) (nI c) = 0
  · rw [if_pos q] at h; exact absurd h (by decide)
  · have : zs_in (j_X2_moversHand (nI a) vh1 vh2) c = true := by
      cases e : zs_in (j_X2_moversHand (nI a) vh1 vh2) c with
      | true => rfl
      | false => exact absurd ((zs_has (by omega) _).mpr e) q
    rw [m] at this
    simp [zl_p] at this
    exact this.2
theorem zp_play (h : zr_R vrow vdrawn vtr vled vmov vw1 vw2 vh1 vt1 vp1 vk1 vg1 vh2 vt2 vp2 vk2 vg2 up ur us ut ug uw uh udrawn udealt uon uturn uled utr) {x : Int32} (hx : ¬ j_X2_isCard x = 0) (hw : j_X2_reasonAgainst vdrawn vtr vled vmov vh1 vh2 x = 0) :
    zr_R vrow (j_X2_play_vdrawn vdrawn vtr vled vmov x) vtr (j_X2_play_vled vled x) (j_X2_play_vmov vrow vdrawn vtr vled vmov vh1 vh2 x) (j_X2_play_vw1 vrow vdrawn vtr vled vmov vw1 vh1 vp1 vg1 vh2 vp2 vg2 x) (j_X2_play_vw2 vrow vdrawn vtr vled vmov vw2 vh1 vp1 vg1 vh2 vp2 vg2 x) (j_X2_play_vh1 vrow vdrawn vtr vled vmov vh1 x) (j_X2_play_vt1 vtr vled vmov vt1 x) (j_X2_play_vp1 vtr vled vmov vp1 vg1 x) (j_X2_play_vk1 vtr vled vmov vk1 x) (j_X2_play_vg1 vled vg1) (j_X2_play_vh2 vrow vdrawn vtr vled vmov vh2 x) (j_X2_play_vt2 vtr vled vmov vt2 x) (j_X2_play_vp2 vtr vled vmov vp2 vg2 x) (j_X2_play_vk2 vtr vled vmov vk2 x) (j_X2_play_vg2 vled vg2)
      (j_X3_play_uplace up ur udrawn udealt uon uturn uled utr x) ur (j_X3_play_upts up us ug udrawn udealt uon uturn uled utr x) (j_X3_play_utks up ut udrawn udealt uon uturn uled utr x) (j_X3_play_uglv up ug udrawn udealt uon uturn uled utr x) (j_X3_play_uwin up ur us ug uw udrawn udealt uon uturn uled utr x) uh (j_X3_play_udrawn up udrawn udealt uon uturn uled utr x) udealt (j_X3_play_uon up ur udrawn udealt uon uturn uled utr x) (j_X3_play_uturn up udrawn udealt uon uturn uled utr x) (j_X3_play_uled up udrawn udealt uon uturn uled utr x) utr ∧
    j_X2_play vtr vled vmov x = j_X3_play up udrawn udealt uon uturn uled utr x ∧ j_X3_play_uthr up udrawn udealt uon uturn uled utr x = 0 := by
  obtain ⟨c, hc, e⟩ := zr_card hx
  subst e
  have hwy := (zr_why h hc).trans hw
  have hc3 : ¬ j_X3_isCard (nI c) = 0 := hx
  obtain ⟨hs, ⟨el, et⟩, hh, htu, hm, hur, hd⟩ := h
  subst el; subst et
  rcases hm with ⟨_, m1, _⟩ | ⟨m0, m1⟩
  · unfold j_X2_reasonAgainst at hw
    rw [if_pos m1] at hw
    exact absurd hw (by decide)
  · rcases hd with ⟨_, d0, _⟩ | ⟨d0, t, a, b, E, g, inv, ⟨ht, e1⟩, ⟨hab, e2⟩, ⟨hE, e3, e4⟩, ⟨g1, g2, g4, g5⟩, hpl, lo, hr, hp, hn6, hon⟩
    · rw [m0] at d0
      exact absurd d0 (by decide)
    · subst e1; subst e2; subst e3; subst e4; subst d0; subst m0; subst m1
      have ha : a < 2 := by omega
      have huc := zp_leg ha hc g1 g2 hw
      have ho := hon rfl
      have hab2 : (a = 0 ∧ b = 1) ∨ (a = 1 ∧ b = 0) := by omega
      have c00 : nI 0 = 0 := by decide
      have c10 : ¬ nI 1 = 0 := by decide
      simp only [j_X3_play_uplace, j_X3_play_upts, j_X3_play_utks, j_X3_play_uglv, j_X3_play_uwin, j_X3_play_udrawn, j_X3_play_uon, j_X3_play_uturn, j_X3_play_uled, j_X3_play, j_X3_play_uthr, if_neg hc3, if_pos hwy]
      rcases lo with ⟨hl, h3⟩ | ⟨l, hl, ell, h3⟩
      · subst hl
        have ln : (-1 : Int32) < 0 := by decide
        have lr : (-1 : Int32) = (-1) := rfl
        simp only [j_X2_play_vdrawn, j_X2_play_vled, j_X2_play_vmov, j_X2_play_vw1, j_X2_play_vw2, j_X2_play_vh1, j_X2_play_vt1, j_X2_play_vp1, j_X2_play_vk1, j_X2_play_vg1, j_X2_play_vh2, j_X2_play_vt2, j_X2_play_vp2, j_X2_play_vk2, j_X2_play_vg2, j_X2_play, if_pos ln, if_pos lr, ite_self, ite_true]
        refine ⟨?_, by first | trivial | exact ⟨rfl, trivial⟩ | simp⟩
        obtain ⟨hq, hn1, hn15⟩ := ho
        have hn : zl_nn up a = zl_nn up b := by
          rcases hq with q | q
          · exact q.2
          · exact absurd rfl q.1
        rcases hab2 with ⟨a1, a2⟩ | ⟨a1, a2⟩
        · subst a1; subst a2
          rw [if_pos c00, if_pos c00]
          exact zp_lead ht hab hE hc hr hur hp hpl h3 huc (zh_out (by decide) (by decide) (by decide) hc g1) (zh_keep (by decide) (by decide) (by decide) (by rw [huc]; decide) g2) g4 g5 hn hn1 hn6 hn15 hs hh
        · subst a1; subst a2
          rw [if_neg c10, if_neg c10]
          exact zp_lead ht hab hE hc hr hur hp hpl h3 huc (zh_keep (by decide) (by decide) (by decide) (by rw [huc]; decide) g1) (zh_out (by decide) (by decide) (by decide) hc g2) g4 g5 hn hn1 hn6 hn15 hs hh
      · subst ell
        have ln : ¬ nI l < 0 := nI_pos (by omega)
        have lr : ¬ nI l = (-1) := zs_nm1 l hl
        simp only [j_X2_play_vdrawn, j_X2_play_vled, j_X2_play_vmov, j_X2_play_vw1, j_X2_play_vw2, j_X2_play_vh1, j_X2_play_vt1, j_X2_play_vp1, j_X2_play_vk1, j_X2_play_vg1, j_X2_play_vh2, j_X2_play_vt2, j_X2_play_vp2, j_X2_play_vk2, j_X2_play_vg2, j_X2_play, if_neg ln, if_neg lr]
        obtain ⟨hq, hn1, hn15⟩ := ho
        have hn : zl_nn up a = zl_nn up b + 1 := by
          rcases hq with q | q
          · exact absurd q.1 lr
          · exact q.2
        refine ⟨?_, zr_taker ht hl hc, trivial⟩
        rcases hab2 with ⟨a1, a2⟩ | ⟨a1, a2⟩
        · subst a1; subst a2
          simp only [if_pos c00]
          exact zp_fin ht hab hE hl hc hr hur hp hpl h3 huc (fun w h1 h2 => zh_out (by decide) h1 (by omega) hc g1) (fun w h1 h2 => zh_keep (by decide) h1 (by omega) (by rw [huc]; decide) g2) g4 g5 hn hn6.1 hn15 hs hh
        · subst a1; subst a2
          simp only [if_neg c10]
          exact zp_fin ht hab hE hl hc hr hur hp hpl h3 huc (fun w h1 h2 => zh_keep (by decide) h1 (by omega) (by rw [huc]; decide) g1) (fun w h1 h2 => zh_out (by decide) h1 (by omega) hc g2) g4 g5 hn hn6.2 hn15 hs hh
/-- refused -/
theorem zp_playX (h : zr_R vrow vdrawn vtr vled vmov vw1 vw2 vh1 vt1 vp1 vk1 vg1 vh2 vt2 vp2 vk2 vg2 up ur us ut ug uw uh udrawn udealt uon uturn uled utr) {x : Int32} (hx : j_X2_isCard x = 0 ∨ (¬ j_X2_isCard x = 0 ∧ ¬ j_X2_reasonAgainst vdrawn vtr vled vmov vh1 vh2 x = 0)) :
    zr_R vrow vdrawn vtr vled vmov vw1 vw2 vh1 vt1 vp1 vk1 vg1 vh2 vt2 vp2 vk2 vg2 (j_X3_play_uplace up ur udrawn udealt uon uturn uled utr x) ur (j_X3_play_upts up us ug udrawn udealt uon uturn uled utr x) (j_X3_play_utks up ut udrawn udealt uon uturn uled utr x) (j_X3_play_uglv up ug udrawn udealt uon uturn uled utr x) (j_X3_play_uwin up ur us ug uw udrawn udealt uon uturn uled utr x) uh (j_X3_play_udrawn up udrawn udealt uon uturn uled utr x) udealt (j_X3_play_uon up ur udrawn udealt uon uturn uled utr x) (j_X3_play_uturn up udrawn udealt uon uturn uled utr x) (j_X3_play_uled up udrawn udealt uon uturn uled utr x) utr ∧ j_X3_play_uthr up udrawn udealt uon uturn uled utr x = (if j_X2_isCard x = 0 then 1 else 2) := by
  rcases hx with hx | ⟨hx, hw⟩
  · have hc3 : j_X3_isCard x = 0 := hx
    simp only [j_X3_play_uplace, j_X3_play_upts, j_X3_play_utks, j_X3_play_uglv, j_X3_play_uwin, j_X3_play_udrawn, j_X3_play_uon, j_X3_play_uturn, j_X3_play_uled, j_X3_play_uthr, if_pos hc3, if_pos hx]
    exact ⟨h, trivial⟩
  · have hc3 : ¬ j_X3_isCard x = 0 := hx
    obtain ⟨c, hc, e⟩ := zr_card hx
    have hwy : ¬ j_X3_why up udrawn udealt uon uturn uled utr x = 0 := by
      subst e
      rw [zr_why h hc]; exact hw
    simp only [j_X3_play_uplace, j_X3_play_upts, j_X3_play_utks, j_X3_play_uglv, j_X3_play_uwin, j_X3_play_udrawn, j_X3_play_uon, j_X3_play_uturn, j_X3_play_uled, j_X3_play_uthr, if_neg hc3, if_neg hx, if_neg hwy]
    exact ⟨h, trivial⟩
end ZP
