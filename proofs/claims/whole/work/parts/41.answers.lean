/-! CLASS AND REFERENCE SIDE BY SIDE: the relation, and the answers that change nothing -/
abbrev zr_s (j : Nat) : Nat := if j < 41 then j + 1 else 12
def zr_row (vrow ur : Nat → Int32) (g inv : Nat → Nat) : Prop := (∀ k, k < 42 → ur k = nI (g k) ∧ g k < 42 ∧ inv (g k) = k) ∧ (∀ j, 12 ≤ j → j < 42 → vrow j = ur (zr_s j))
def zr_lo (up : Nat → Int32) (led : Int32) : Prop := (led = (-1) ∧ ∀ c, c < 42 → ¬ up c = nI 3) ∨ (∃ l, l < 42 ∧ led = nI l ∧ ∀ c, c < 42 → (up c = nI 3 ↔ c = l))
def zr_D (vrow ur up : Nat → Int32) (vdrawn vtr vled : Int32) (vh1 vt1 vh2 vt2 : Int64) (udrawn uon uturn : Int32) : Prop :=
  ∃ (t a b E : Nat) (g inv : Nat → Nat), (t < 4 ∧ vtr = nI t) ∧ (a + b = 1 ∧ uturn = nI a) ∧ (E ≤ 15 ∧ udrawn = nI (2 * E) ∧ vdrawn = nI (12 + 2 * E)) ∧ (zr_hand up 0 vh1 ∧ zr_hand up 1 vh2 ∧ zr_hand up 4 vt1 ∧ zr_hand up 5 vt2) ∧ (∀ c, c < 42 → ∃ v, v < 6 ∧ up c = nI v) ∧ zr_lo up vled ∧ zr_row vrow ur g inv ∧ (∀ j, 12 + 2 * E ≤ j → j < 42 → up (g (zr_s j)) = nI 2) ∧ (zl_nn up 0 ≤ 6 ∧ zl_nn up 1 ≤ 6) ∧
    (uon = 1 → ((vled = (-1) ∧ zl_nn up a = zl_nn up b) ∨ (¬ vled = (-1) ∧ zl_nn up a = zl_nn up b + 1)) ∧ 1 ≤ zl_nn up a ∧ (E < 15 → zl_nn up a = 6))
def zr_R (vrow : Nat → Int32) (vdrawn vtr vled vmov vw1 vw2 : Int32) (vh1 vt1 : Int64) (vp1 vk1 vg1 : Int32) (vh2 vt2 : Int64) (vp2 vk2 vg2 : Int32) (up ur us ut ug uw uh : Nat → Int32) (udrawn udealt uon uturn uled utr : Int32) : Prop :=
  (vw1 = uw 0 ∧ vw2 = uw 1 ∧ vp1 = us 0 ∧ vp2 = us 1 ∧ vk1 = ut 0 ∧ vk2 = ut 1 ∧ vg1 = ug 0 ∧ vg2 = ug 1) ∧ (vled = uled ∧ vtr = utr) ∧ (∀ j, j < 12 → vp_in (uh j) 42) ∧ (uturn = 0 ∨ uturn = 1) ∧ ((uon = 0 ∧ vmov = (-1) ∧ vled = (-1)) ∨ (uon = 1 ∧ vmov = uturn)) ∧ (∀ j, j < 42 → vp_in (ur j) 42) ∧
    ((udealt = 0 ∧ uon = 0 ∧ vtr = (-1) ∧ vdrawn = 42 ∧ udrawn = 0 ∧ vh1 = 0 ∧ vh2 = 0) ∨ (udealt = 1 ∧ zr_D vrow ur up vdrawn vtr vled vh1 vt1 vh2 vt2 udrawn uon uturn))
theorem zr_c0 : (0 : Int32).toNatClampNeg = 0 := by decide
theorem zr_c1 : (1 : Int32).toNatClampNeg = 1 := by decide
theorem zr_card {x : Int32} (h : ¬ j_X2_isCard x = 0) : ∃ c, c < 42 ∧ x = nI c := by
  rcases pk_ix x (n := 42) (by decide) with q | q | ⟨j, hj, e⟩
  · refine absurd ?_ h
    unfold j_X2_isCard
    rw [if_pos q]
  · have q' : (42 : Int32) ≤ x := q
    refine absurd ?_ h
    unfold j_X2_isCard
    by_cases z : x < 0
    · rw [if_pos z]
    · rw [if_neg z, if_pos q']
  · exact ⟨j, hj, e⟩
theorem zr_isCard {c : Nat} (hc : c < 42) : j_X2_isCard (nI c) = 1 := by
  have : ∀ c, c < 42 → j_X2_isCard (nI c) = 1 := by decide +kernel
  exact this c hc
theorem zr_arch {x : Int32} (h : ¬ j_X2_isArchivist x = 0) : x = 0 ∨ x = 1 := by
  by_cases q : x = 0
  · exact Or.inl q
  · by_cases r : x = 1
    · exact Or.inr r
    · refine absurd ?_ h
      unfold j_X2_isArchivist
      rw [if_neg q, if_neg r]
theorem zr_pile {E : Nat} (h : E ≤ 15) : j_X3_inPile (nI (2 * E)) 1 = nI (30 - 2 * E) := by
  unfold j_X3_inPile
  rw [if_neg (by decide)]
  exact pk_sub (a := 30) (b := 2 * E) (by omega)
theorem zr_pileq {E : Nat} (h : E ≤ 15) : (42 : Int32) ≤ nI (12 + 2 * E) ↔ ¬ 0 < j_X3_inPile (nI (2 * E)) 1 := by
  rw [zr_pile h]
  have e1 : (42 : Int32) ≤ nI (12 + 2 * E) ↔ 42 ≤ 12 + 2 * E := nI_leI (a := 42) (by decide) (by omega)
  have e2 : (0 : Int32) < nI (30 - 2 * E) ↔ 0 < 30 - 2 * E := nI_ltI (a := 0) (by decide) (by omega)
  rw [e1, e2]
  omega
theorem zr_ledOf {up : Nat → Int32} {led : Int32} (h : zr_lo up led) : zr_led led := by
  rcases h with ⟨e, _⟩ | ⟨l, hl, e, _⟩
  · exact Or.inl e
  · exact Or.inr ⟨l, hl, e⟩
section ZR
variable {vrow : Nat → Int32} {vdrawn vtr vled vmov vw1 vw2 : Int32} {vh1 vt1 : Int64} {vp1 vk1 vg1 : Int32} {vh2 vt2 : Int64} {vp2 vk2 vg2 : Int32} {up ur us ut ug uw uh : Nat → Int32} {udrawn udealt uon uturn uled utr : Int32}
theorem zr_why (h : zr_R vrow vdrawn vtr vled vmov vw1 vw2 vh1 vt1 vp1 vk1 vg1 vh2 vt2 vp2 vk2 vg2 up ur us ut ug uw uh udrawn udealt uon uturn uled utr) {c : Nat} (hc : c < 42) : j_X3_why up udrawn udealt uon uturn uled utr (nI c) = j_X2_reasonAgainst vdrawn vtr vled vmov vh1 vh2 (nI c) := by
  obtain ⟨_, ⟨el, et⟩, _, _, hm, _, hd⟩ := h
  subst el; subst et
  rcases hm with ⟨m0, m1, _⟩ | ⟨m0, m1⟩
  · exact zr_why0 m0 m1
  · rcases hd with ⟨_, d0, _⟩ | ⟨d0, t, a, b, E, g, inv, ⟨ht, e1⟩, ⟨hab, e2⟩, ⟨hE, e3, e4⟩, ⟨g1, g2, _, _⟩, _, lo, _⟩
    · rw [m0] at d0
      exact absurd d0 (by decide)
    · subst e1; subst e2; subst e3; subst e4; subst d0; subst m1
      exact zr_why1 (by omega) ht hc g1 g2 (by rw [m0]; decide) (zr_ledOf lo) (zr_pileq hE)
theorem zr_whyNot (h : zr_R vrow vdrawn vtr vled vmov vw1 vw2 vh1 vt1 vp1 vk1 vg1 vh2 vt2 vp2 vk2 vg2 up ur us ut ug uw uh udrawn udealt uon uturn uled utr) {x : Int32} (hx : ¬ j_X2_isCard x = 0) : j_X3_whyNot up udrawn udealt uon uturn uled utr x = j_X2_whyNot vdrawn vtr vled vmov vh1 vh2 x := by
  obtain ⟨c, hc, e⟩ := zr_card hx
  subst e
  have hx3 : ¬ j_X3_isCard (nI c) = 0 := hx
  unfold j_X3_whyNot j_X2_whyNot
  rw [if_neg hx3]
  exact zr_why h hc
theorem zr_isPlaying (h : zr_R vrow vdrawn vtr vled vmov vw1 vw2 vh1 vt1 vp1 vk1 vg1 vh2 vt2 vp2 vk2 vg2 up ur us ut ug uw uh udrawn udealt uon uturn uled utr) : j_X2_isPlaying vmov = j_X3_isPlaying uon := by
  obtain ⟨_, _, _, ht, hm, _, _⟩ := h
  unfold j_X2_isPlaying j_X3_isPlaying
  rcases hm with ⟨m0, m1, _⟩ | ⟨m0, m1⟩
  · rw [m0, m1]; decide
  · rw [m0, m1]
    rcases ht with e | e
    · rw [e]; decide
    · rw [e]; decide
theorem zr_turn (h : zr_R vrow vdrawn vtr vled vmov vw1 vw2 vh1 vt1 vp1 vk1 vg1 vh2 vt2 vp2 vk2 vg2 up ur us ut ug uw uh udrawn udealt uon uturn uled utr) : j_X2_turn vmov = j_X3_turn uon uturn := by
  obtain ⟨_, _, _, _, hm, _, _⟩ := h
  unfold j_X2_turn j_X3_turn
  rcases hm with ⟨m0, m1, _⟩ | ⟨m0, m1⟩
  · rw [if_pos m0, m1]
  · rw [if_neg (by rw [m0]; decide), m1]
theorem zr_ledA (h : zr_R vrow vdrawn vtr vled vmov vw1 vw2 vh1 vt1 vp1 vk1 vg1 vh2 vt2 vp2 vk2 vg2 up ur us ut ug uw uh udrawn udealt uon uturn uled utr) : j_X2_led vled = j_X3_led uled := h.2.1.1
theorem zr_trumps (h : zr_R vrow vdrawn vtr vled vmov vw1 vw2 vh1 vt1 vp1 vk1 vg1 vh2 vt2 vp2 vk2 vg2 up ur us ut ug uw uh udrawn udealt uon uturn uled utr) : j_X2_trumps vtr = j_X3_trumps utr := h.2.1.2
theorem zr_won1 (h : zr_R vrow vdrawn vtr vled vmov vw1 vw2 vh1 vt1 vp1 vk1 vg1 vh2 vt2 vp2 vk2 vg2 up ur us ut ug uw uh udrawn udealt uon uturn uled utr) : j_X2_wonByFirst vw1 = j_X3_wonByFirst uw := by
  unfold j_X2_wonByFirst j_X3_wonByFirst
  rw [zr_c0]
  exact h.1.1
theorem zr_won2 (h : zr_R vrow vdrawn vtr vled vmov vw1 vw2 vh1 vt1 vp1 vk1 vg1 vh2 vt2 vp2 vk2 vg2 up ur us ut ug uw uh udrawn udealt uon uturn uled utr) : j_X2_wonBySecond vw2 = j_X3_wonBySecond uw := by
  unfold j_X2_wonBySecond j_X3_wonBySecond
  rw [zr_c1]
  exact h.1.2.1
theorem zr_pileA (h : zr_R vrow vdrawn vtr vled vmov vw1 vw2 vh1 vt1 vp1 vk1 vg1 vh2 vt2 vp2 vk2 vg2 up ur us ut ug uw uh udrawn udealt uon uturn uled utr) : j_X2_pile vdrawn = j_X3_pile udrawn udealt := by
  obtain ⟨_, _, _, _, _, _, hd⟩ := h
  unfold j_X2_pile j_X3_pile
  rcases hd with ⟨d0, _, _, d1, d2, _⟩ | ⟨d0, t, a, b, E, g, inv, _, _, ⟨hE, e3, e4⟩, _⟩
  · rw [d0, d1, d2]; decide
  · rw [d0, e3, e4, zr_pile hE]
    have : (42 : Int32) - nI (12 + 2 * E) = nI (42 - (12 + 2 * E)) := pk_sub (a := 42) (by omega)
    rw [this]
    congr 1
    omega
theorem zr_cards (h : zr_R vrow vdrawn vtr vled vmov vw1 vw2 vh1 vt1 vp1 vk1 vg1 vh2 vt2 vp2 vk2 vg2 up ur us ut ug uw uh udrawn udealt uon uturn uled utr) {x : Int32} (hx : ¬ j_X2_isArchivist x = 0) : j_X2_cards vh1 vh2 x = j_X3_cards up udealt x := by
  obtain ⟨_, _, _, _, _, _, hd⟩ := h
  unfold j_X2_cards j_X3_cards
  have hx3 : ¬ j_X3_isArchivist x = 0 := hx
  rw [if_neg hx3]
  rcases hd with ⟨d0, _, _, _, _, d1, d2⟩ | ⟨d0, t, a, b, E, g, inv, _, _, _, ⟨g1, g2, _, _⟩, _⟩
  · have z : j_X3_howMany up 0 x = 0 := by
      show j_X3_howMany_4 up 0 x 42 0 0 = 0
      rw [j_X3_howMany_4, if_pos rfl]
    rw [d0, d1, d2, z]
    by_cases q : x = 0
    · rw [if_pos q]; decide
    · rw [if_neg q]; decide
  · rw [d0]
    rcases zr_arch hx with e | e
    · subst e
      rw [if_pos rfl, zc_bit vh1 (zl_hw up g1), zl_hct up g1]
      exact (zl_hm up 0 (ud := 1) (by decide)).symm
    · subst e
      rw [if_neg (by decide), zc_bit vh2 (zl_hw up g2), zl_hct up g2]
      exact (zl_hm up 1 (ud := 1) (by decide)).symm
theorem zr_cA {h : Int64} {a : Nat} {x0 : Int32} (vh1 vh2 : Int64) (hh : zr_hand up a h) (hx : ¬ j_X3_isArchivist x0 = 0) (hx0 : x0 = nI a) {ud : Int32} (hu : ¬ ud = 0) {k : Nat} (hk : k < 2 ^ 31) : ∀ (n i j : Nat), i + n ≤ 42 → j ≤ k → j ≤ i →
    (j_X2_cardAt_32 vh1 vh2 x0 (nI k) n i h (nI j) = (-1) ∧ j_X3_cardAt_uthr_10 up ud x0 (nI k) n i (nI (k - j)) = 1) ∨
    (∃ c, c < 42 ∧ j_X2_cardAt_32 vh1 vh2 x0 (nI k) n i h (nI j) = nI c ∧ j_X3_cardAt_10 up ud x0 (nI k) n i (nI (k - j)) = nI c ∧ j_X3_cardAt_uthr_10 up ud x0 (nI k) n i (nI (k - j)) = 0)
  | 0, i, j, _, _, _ => Or.inl ⟨rfl, rfl⟩
  | n + 1, i, j, hi, hj, hji => by
    rw [j_X2_cardAt_32, j_X3_cardAt_10, j_X3_cardAt_uthr_10, if_neg hu, if_neg hu, if_neg hx, if_neg hx, if_neg (nI_pos hk), if_neg (nI_pos hk), nI_clamp (show i < 2 ^ 31 by omega)]
    by_cases u : up i = nI a
    · have hi1 : zs_in h i = true := by
        rw [hh]
        have : i < 42 := by omega
        simp [zl_p, this, u]
      have hn : ¬ j_X2_has h (nI i) = 0 := fun e => by
        rw [(zs_has (by omega) h).mp e] at hi1
        exact absurd hi1 (by decide)
      have u' : up i = x0 := by rw [u, hx0]
      rw [if_neg hn, if_pos u', if_pos u']
      by_cases q : j = k
      · have q1 : nI j = nI k := by rw [q]
        have q2 : nI (k - j) = 0 := by rw [q, Nat.sub_self]; rfl
        rw [if_pos q1, if_pos q2, if_pos q2]
        exact Or.inr ⟨i, by omega, rfl, rfl, rfl⟩
      · have q1 : ¬ nI j = nI k := fun e => q ((nI_eq (by omega) hk).mp e)
        have q2 : ¬ nI (k - j) = 0 := nI_ne0 (by omega) (by omega)
        have q3 : nI (k - j) + (-1) = nI (k - (j + 1)) := by
          rw [show k - j = (k - (j + 1)) + 1 by omega, pk_m1]
        rw [if_neg q1, if_neg q2, if_neg q2, nI_1, q3]
        exact zr_cA vh1 vh2 hh hx hx0 hu hk n (i + 1) (j + 1) (by omega) (by omega) (by omega)
    · have hi1 : zs_in h i = false := by
        rw [hh]
        simp [zl_p, u]
      have u' : ¬ up i = x0 := by rw [hx0]; exact u
      rw [if_pos ((zs_has (by omega) h).mpr hi1), if_neg u', if_neg u']
      exact zr_cA vh1 vh2 hh hx hx0 hu hk n (i + 1) j (by omega) hj (by omega)
theorem zr_cN (vh1 vh2 : Int64) (x0 : Int32) {x1 : Int32} (hx : x1 < 0) (h : Int64) : ∀ (n i j : Nat), i + n ≤ 42 → j ≤ i → j_X2_cardAt_32 vh1 vh2 x0 x1 n i h (nI j) = (-1)
  | 0, _, _, _, _ => rfl
  | n + 1, i, j, hi, hj => by
    rw [j_X2_cardAt_32]
    have e : ¬ nI j = x1 := fun e => by
      rw [← e] at hx
      exact nI_pos (by omega) hx
    by_cases q : j_X2_has h (nI i) = 0
    · rw [if_pos q]
      exact zr_cN vh1 vh2 x0 hx h n (i + 1) j (by omega) (by omega)
    · rw [if_neg q, if_neg e, nI_1]
      exact zr_cN vh1 vh2 x0 hx h n (i + 1) (j + 1) (by omega) (by omega)
theorem zr_c0h (vh1 vh2 : Int64) (x0 x1 : Int32) : ∀ (n i : Nat) (y : Int32), i + n ≤ 42 → j_X2_cardAt_32 vh1 vh2 x0 x1 n i 0 y = (-1)
  | 0, _, _, _ => rfl
  | n + 1, i, y, hi => by
    rw [j_X2_cardAt_32, if_pos ((zs_has (show i < 64 by omega) 0).mpr (zs_0 i))]
    exact zr_c0h vh1 vh2 x0 x1 n (i + 1) y (by omega)
theorem zr_cardAt (h : zr_R vrow vdrawn vtr vled vmov vw1 vw2 vh1 vt1 vp1 vk1 vg1 vh2 vt2 vp2 vk2 vg2 up ur us ut ug uw uh udrawn udealt uon uturn uled utr) {x0 x1 : Int32} (hx : ¬ j_X2_isArchivist x0 = 0) :
    (j_X2_cardAt vh1 vh2 x0 x1 = (-1) ∧ j_X3_cardAt_uthr up udealt x0 x1 = 1) ∨ (¬ j_X2_cardAt vh1 vh2 x0 x1 = (-1) ∧ j_X2_cardAt vh1 vh2 x0 x1 = j_X3_cardAt up udealt x0 x1 ∧ j_X3_cardAt_uthr up udealt x0 x1 = 0) := by
  obtain ⟨_, _, _, _, _, _, hd⟩ := h
  have hx3 : ¬ j_X3_isArchivist x0 = 0 := hx
  rcases hd with ⟨d0, _, _, _, _, d1, d2⟩ | ⟨d0, t, a, b, E, g, inv, _, _, _, ⟨g1, g2, _, _⟩, _⟩
  · refine Or.inl ⟨?_, ?_⟩
    · unfold j_X2_cardAt
      rw [d1, d2]
      by_cases q : x0 = 0
      · rw [if_pos q]; exact zr_c0h _ _ _ _ 42 0 0 (by decide)
      · rw [if_neg q]; exact zr_c0h _ _ _ _ 42 0 0 (by decide)
    · show j_X3_cardAt_uthr_10 up udealt x0 x1 42 0 x1 = 1
      rw [j_X3_cardAt_uthr_10, if_pos d0]
  · subst d0
    obtain ⟨a', h', e1, e2, e3⟩ : ∃ (a' : Nat) (h' : Int64), x0 = nI a' ∧ zr_hand up a' h' ∧ j_X2_cardAt vh1 vh2 x0 x1 = j_X2_cardAt_32 vh1 vh2 x0 x1 42 0 h' 0 := by
      rcases zr_arch hx with e | e
      · exact ⟨0, vh1, e, g1, by unfold j_X2_cardAt; rw [if_pos e]⟩
      · exact ⟨1, vh2, e, g2, by unfold j_X2_cardAt; rw [if_neg (by rw [e]; decide)]⟩
    by_cases q : x1 < 0
    · refine Or.inl ⟨?_, ?_⟩
      · rw [e3]; exact zr_cN vh1 vh2 x0 q h' 42 0 0 (by decide) (by decide)
      · show j_X3_cardAt_uthr_10 up 1 x0 x1 42 0 x1 = 1
        rw [j_X3_cardAt_uthr_10, if_neg (by decide), if_neg hx3, if_pos q]
    · obtain ⟨k, hk, ek⟩ := nI_of q
      subst ek
      have k0 := zr_cA vh1 vh2 e2 hx3 e1 (ud := 1) (by decide) hk 42 0 0 (by decide) (Nat.zero_le _) (Nat.le_refl _)
      rw [Nat.sub_zero] at k0
      rcases k0 with ⟨r1, r2⟩ | ⟨c, hc, r1, r2, r3⟩
      · exact Or.inl ⟨e3.trans r1, r2⟩
      · refine Or.inr ⟨?_, ?_, r3⟩
        · rw [e3]
          intro z
          exact zs_nm1 c hc (r1.symm.trans z)
        · rw [e3]
          exact r1.trans r2.symm
theorem zr_has0 {h : Int64} {v c w : Nat} (hv : v < 6) (hw : w < 6) (hc : c < 42) (hh : zr_hand up v h) (u : up c = nI w) : (j_X2_has h (nI c) = 0) ↔ ¬ w = v := by
  rw [zs_has (by omega), hh]
  by_cases q : w = v
  · subst q; simp [zl_p, hc, u]
  · have : ¬ nI w = nI v := fun e => q ((nI_eq (by omega) (by omega)).mp e)
    simp [zl_p, u, this, q]
theorem zr_placeOf (h : zr_R vrow vdrawn vtr vled vmov vw1 vw2 vh1 vt1 vp1 vk1 vg1 vh2 vt2 vp2 vk2 vg2 up ur us ut ug uw uh udrawn udealt uon uturn uled utr) {x : Int32} (hx : ¬ j_X2_isCard x = 0) : j_X2_placeOf vtr vled vh1 vt1 vh2 vt2 x = j_X3_placeOf up udealt x := by
  obtain ⟨_, _, _, _, _, _, hd⟩ := h
  obtain ⟨c, hc, e⟩ := zr_card hx
  subst e
  have hx3 : ¬ j_X3_isCard (nI c) = 0 := hx
  unfold j_X2_placeOf j_X3_placeOf
  rw [if_neg hx3]
  rcases hd with ⟨d0, _, d1, _⟩ | ⟨d0, t, a, b, E, g, inv, ⟨ht, e1⟩, _, _, ⟨g1, g2, g4, g5⟩, pl, lo, _⟩
  · rw [if_pos d0, if_pos d1]
  · have hv : ¬ vtr = (-1) := by rw [e1]; exact zs_nm1 t (by omega)
    have hdd : ¬ udealt = 0 := by rw [d0]; decide
    rw [if_neg hv, if_neg hdd, nI_clamp (by omega)]
    obtain ⟨w, hw, u⟩ := pl c hc
    rw [u]
    by_cases q0 : w = 0
    · rw [if_neg (fun e => (zr_has0 (by decide) hw hc g1 u).mp e q0), q0]; rfl
    · rw [if_pos ((zr_has0 (by decide) hw hc g1 u).mpr q0)]
      by_cases q1 : w = 1
      · rw [if_neg (fun e => (zr_has0 (by decide) hw hc g2 u).mp e q1), q1]; rfl
      · rw [if_pos ((zr_has0 (by decide) hw hc g2 u).mpr q1)]
        by_cases q4 : w = 4
        · rw [if_neg (fun e => (zr_has0 (by decide) hw hc g4 u).mp e q4), q4]; rfl
        · rw [if_pos ((zr_has0 (by decide) hw hc g4 u).mpr q4)]
          by_cases q5 : w = 5
          · rw [if_neg (fun e => (zr_has0 (by decide) hw hc g5 u).mp e q5), q5]; rfl
          · rw [if_pos ((zr_has0 (by decide) hw hc g5 u).mpr q5)]
            rcases lo with ⟨e, n3⟩ | ⟨l, hl, e, i3⟩
            · have : ¬ w = 3 := fun z => n3 c hc (by rw [u, z])
              rw [if_neg (by rw [e]; exact zs_nm1 c hc), show w = 2 by omega]; rfl
            · by_cases z : c = l
              · have w3 := (i3 c hc).mpr z
                rw [u] at w3
                rw [if_pos (by rw [e, z]), w3]; rfl
              · have w3 : ¬ w = 3 := fun y => z ((i3 c hc).mp (by rw [u, y]))
                rw [if_neg (by rw [e]; exact fun y => z ((nI_eq (by omega) (by omega)).mp y)), show w = 2 by omega]; rfl
theorem zr_of {f : Nat → Int32} {v1 v2 x : Int32} (h1 : v1 = f 0) (h2 : v2 = f 1) (hx : ¬ j_X2_isArchivist x = 0) : (if x = 0 then v1 else v2) = (if j_X3_isArchivist x = 0 then 0 else f x.toNatClampNeg) := by
  have hx3 : ¬ j_X3_isArchivist x = 0 := hx
  rw [if_neg hx3]
  rcases zr_arch hx with e | e
  · subst e; rw [if_pos rfl, h1, zr_c0]
  · subst e; rw [if_neg (by decide), h2, zr_c1]
theorem zr_ch (h : zr_R vrow vdrawn vtr vled vmov vw1 vw2 vh1 vt1 vp1 vk1 vg1 vh2 vt2 vp2 vk2 vg2 up ur us ut ug uw uh udrawn udealt uon uturn uled utr) : ∀ (n i : Nat) (y : Int32), i + n ≤ 42 → j_X2_choices_4 vdrawn vtr vled vmov vh1 vh2 n i y = j_X3_choices_9 up udrawn udealt uon uturn uled utr n i y
  | 0, _, _, _ => rfl
  | n + 1, i, y, hi => by
    rw [j_X2_choices_4, j_X3_choices_9, zr_why h (show i < 42 by omega), show y + 0 = y from Int32.add_zero _]
    by_cases q : j_X2_reasonAgainst vdrawn vtr vled vmov vh1 vh2 (nI i) = 0
    · rw [if_pos q, if_pos q]; exact zr_ch h n (i + 1) _ (by omega)
    · rw [if_neg q, if_neg q]; exact zr_ch h n (i + 1) _ (by omega)
theorem zr_choices (h : zr_R vrow vdrawn vtr vled vmov vw1 vw2 vh1 vt1 vp1 vk1 vg1 vh2 vt2 vp2 vk2 vg2 up ur us ut ug uw uh udrawn udealt uon uturn uled utr) : j_X2_choices vdrawn vtr vled vmov vh1 vh2 = j_X3_choices up udrawn udealt uon uturn uled utr := zr_ch h 42 0 0 (by decide)
theorem zr_chT (up : Nat → Int32) (udrawn udealt uon uturn uled utr : Int32) : ∀ (n i : Nat) (y : Int32), j_X3_choices_uthr_9 up udrawn udealt uon uturn uled utr n i y = 0
  | 0, _, _ => rfl
  | n + 1, i, y => by
    rw [j_X3_choices_uthr_9]
    by_cases q : j_X3_why up udrawn udealt uon uturn uled utr (nI i) = 0
    · rw [if_pos q]; exact zr_chT up udrawn udealt uon uturn uled utr n (i + 1) _
    · rw [if_neg q]; exact zr_chT up udrawn udealt uon uturn uled utr n (i + 1) _
/-- who takes it -/
theorem zr_taker {t l c : Nat} {m : Int32} (ht : t < 4) (hl : l < 42) (hc : c < 42) : j_X2_takerBy (nI t) (nI l) m (nI c) = (if j_X3_takes (nI t) (nI c) (nI l) = 0 then 1 - m else m) := by
  unfold j_X2_takerBy
  by_cases q : j_X2_beats (nI c) (nI l) (nI t) = 0
  · rw [if_pos q, if_pos ((zm_takes ht hc hl).mpr q)]
  · rw [if_neg q, if_neg (fun e => q ((zm_takes ht hc hl).mp e))]
theorem zr_would (h : zr_R vrow vdrawn vtr vled vmov vw1 vw2 vh1 vt1 vp1 vk1 vg1 vh2 vt2 vp2 vk2 vg2 up ur us ut ug uw uh udrawn udealt uon uturn uled utr) {x : Int32} (hx : ¬ j_X2_isCard x = 0) (h1 : ¬ vled = (-1)) (h2 : ¬ vled = x) : j_X2_wouldTake vtr vled vmov x = j_X3_wouldTake uturn uled utr x ∧ j_X3_wouldTake_uthr uled x = 0 := by
  obtain ⟨_, ⟨el, et⟩, _, _, hm, _, hd⟩ := h
  obtain ⟨c, hc, e⟩ := zr_card hx
  subst e; subst el; subst et
  have hx3 : ¬ j_X3_isCard (nI c) = 0 := hx
  rcases hm with ⟨_, _, m1⟩ | ⟨m0, m1⟩
  · exact absurd m1 h1
  · rcases hd with ⟨_, d0, _⟩ | ⟨d0, t, a, b, E, g, inv, ⟨ht, e1⟩, ⟨hab, e2⟩, _, _, _, lo, _⟩
    · rw [m0] at d0
      exact absurd d0 (by decide)
    · rcases lo with ⟨e, _⟩ | ⟨l, hl, e, _⟩
      · exact absurd e h1
      · subst e; subst e1; subst m1
        unfold j_X2_wouldTake j_X3_wouldTake j_X3_wouldTake_uthr
        rw [if_neg hx3, if_neg hx3, if_neg (nI_pos (show l < 2 ^ 31 by omega)), if_neg (nI_pos (show l < 2 ^ 31 by omega)), if_neg h2, if_neg h2]
        exact ⟨zr_taker ht hl hc, rfl⟩
theorem zr_wouldX (h : zr_R vrow vdrawn vtr vled vmov vw1 vw2 vh1 vt1 vp1 vk1 vg1 vh2 vt2 vp2 vk2 vg2 up ur us ut ug uw uh udrawn udealt uon uturn uled utr) {x : Int32} (hx : ¬ j_X2_isCard x = 0) (h1 : vled = (-1) ∨ vled = x) : j_X3_wouldTake_uthr uled x = 2 := by
  obtain ⟨_, ⟨el, _⟩, _⟩ := h
  subst el
  have hx3 : ¬ j_X3_isCard x = 0 := hx
  unfold j_X3_wouldTake_uthr
  rw [if_neg hx3]
  rcases h1 with e | e
  · rw [if_pos (by rw [e]; decide)]
  · by_cases q : vled < 0
    · rw [if_pos q]
    · rw [if_neg q, if_pos e]
end ZR
