/-! P24: THE CLASS'S ANSWERS over the places of the cards -/
theorem pq_c0 {up : Nat → Int32} {vh1 : Int64} (vh2 : Int64) (g1 : zr_hand up 0 vh1) : j_X2_cards vh1 vh2 0 = nI (zl_nn up 0) := by
  unfold j_X2_cards
  rw [if_pos rfl, zc_bit vh1 (zl_hw up g1), zl_hct up g1]
theorem pq_c1 {up : Nat → Int32} (vh1 : Int64) {vh2 : Int64} (g2 : zr_hand up 1 vh2) : j_X2_cards vh1 vh2 1 = nI (zl_nn up 1) := by
  unfold j_X2_cards
  rw [if_neg (by decide), zc_bit vh2 (zl_hw up g2), zl_hct up g2]
theorem pq_ca {up : Nat → Int32} {vh1 vh2 : Int64} {a : Nat} (ha : a < 2) (g1 : zr_hand up 0 vh1) (g2 : zr_hand up 1 vh2) : j_X2_cards vh1 vh2 (nI a) = nI (zl_nn up a) := by
  have : a = 0 ∨ a = 1 := by omega
  rcases this with e | e
  · subst e; exact pq_c0 vh2 g1
  · subst e; exact pq_c1 vh1 g2
theorem pq_at0 {up : Nat → Int32} {h : Int64} {a c : Nat} (hh : zr_hand up a h) (hc : c < 42) (u : up c = nI a) (vh1 vh2 : Int64) (x0 : Int32) : ∀ (n i : Nat), i + n = 42 → i ≤ c → j_X2_cardAt_32 vh1 vh2 x0 (nI (fb_ct (zl_p up a) c)) n i h (nI (fb_ct (zl_p up a) i)) = nI c
  | 0, i, hi, hic => by omega
  | n + 1, i, hi, hic => by
    rw [j_X2_cardAt_32]
    by_cases w : up i = nI a
    · have k : zl_p up a i = true := decide_eq_true w
      have hi1 : ¬ j_X2_has h (nI i) = 0 := by
        rw [zs_has (by omega), hh]
        have : i < 42 := by omega
        simp [zl_p, this, w]
      rw [if_neg hi1]
      by_cases e : i = c
      · subst e; rw [if_pos rfl]
      · have s1 : fb_ct (zl_p up a) (i + 1) = fb_ct (zl_p up a) i + 1 := by rw [fb_ct_succ, if_pos k]
        have s2 : fb_ct (zl_p up a) (i + 1) ≤ fb_ct (zl_p up a) c := by
          obtain ⟨d, hd⟩ : ∃ d, c = (i + 1) + d := ⟨c - (i + 1), by omega⟩
          rw [hd, fb_ct_split (zl_p up a) (i + 1) d]
          exact Nat.le_add_right _ _
        have b1 := fb_ct_le (zl_p up a) c
        have b2 := fb_ct_le (zl_p up a) i
        have ne : ¬ nI (fb_ct (zl_p up a) i) = nI (fb_ct (zl_p up a) c) := fun z => by
          have := (nI_eq (by omega) (by omega)).mp z
          omega
        rw [if_neg ne, nI_1, ← s1]
        exact pq_at0 hh hc u vh1 vh2 x0 n (i + 1) (by omega) (by omega)
    · have k : ¬ zl_p up a i = true := by simp [zl_p, w]
      have hi1 : j_X2_has h (nI i) = 0 := by
        rw [zs_has (by omega), hh]
        simp [zl_p, w]
      have e : ¬ i = c := fun z => w (by rw [z]; exact u)
      have s1 : fb_ct (zl_p up a) (i + 1) = fb_ct (zl_p up a) i := by rw [fb_ct_succ, if_neg k]; rfl
      rw [if_pos hi1, ← s1]
      exact pq_at0 hh hc u vh1 vh2 x0 n (i + 1) (by omega) (by omega)
/-- the card at its place in the hand -/
theorem pq_at {up : Nat → Int32} {vh1 vh2 : Int64} {a c : Nat} (ha : a < 2) (g1 : zr_hand up 0 vh1) (g2 : zr_hand up 1 vh2) (hc : c < 42) (u : up c = nI a) : j_X2_cardAt vh1 vh2 (nI a) (nI (fb_ct (zl_p up a) c)) = nI c := by
  have : a = 0 ∨ a = 1 := by omega
  unfold j_X2_cardAt
  rcases this with e | e
  · subst e
    rw [if_pos (show nI 0 = 0 by decide)]
    exact pq_at0 g1 hc u vh1 vh2 _ 42 0 rfl (Nat.zero_le _)
  · subst e
    rw [if_neg (by decide)]
    exact pq_at0 g2 hc u vh1 vh2 _ 42 0 rfl (Nat.zero_le _)
/-- .. and a place has a card -/
theorem pq_kth {up : Nat → Int32} {vh1 vh2 : Int64} {a k : Nat} (ha : a < 2) (g1 : zr_hand up 0 vh1) (g2 : zr_hand up 1 vh2) (hk : k < zl_nn up a) : ∃ c, c < 42 ∧ up c = nI a ∧ fb_ct (zl_p up a) c = k ∧ j_X2_cardAt vh1 vh2 (nI a) (nI k) = nI c := by
  obtain ⟨c, hc, p, e⟩ := fb_ct_kth hk
  have u : up c = nI a := of_decide_eq_true p
  exact ⟨c, hc, u, e, by rw [← e]; exact pq_at ha g1 g2 hc u⟩
theorem pq_lt {p : Nat → Bool} {c d : Nat} (h : fb_ct p c < fb_ct p d) : c < d := by
  rcases Nat.lt_or_ge c d with q | q
  · exact q
  · exfalso
    obtain ⟨e, he⟩ : ∃ e, c = d + e := ⟨c - d, by omega⟩
    rw [he, fb_ct_split p d e] at h
    omega
/-- counting over the hand's places is counting over the cards -/
theorem pq_over {p q : Nat → Bool} {cat : Nat → Nat} {N : Nat} (hcat : ∀ c, c < N → p c = true → cat (fb_ct p c) = c) : ∀ n, n ≤ N → fb_ct (fun j => q (cat j)) (fb_ct p n) = fb_ct (fun c => p c && q c) n
  | 0, _ => rfl
  | n + 1, hn => by
    rw [fb_ct_succ, fb_ct_succ]
    by_cases k : p n = true
    · have e : cat (fb_ct p n) = n := hcat n (by omega) k
      have ih := pq_over (q := q) hcat n (by omega)
      rw [if_pos k, fb_ct_succ, ih, e, k]
      rfl
    · have ih := pq_over (q := q) hcat n (by omega)
      have k' : p n = false := by simpa using k
      rw [if_neg k, Nat.add_zero, ih, k']
      rfl
/-! what holds of the class's cells, by the places of the cards -/
def pq_V (vdrawn vtr vled vmov : Int32) (vh1 vt1 : Int64) (vp1 vk1 : Int32) (vh2 vt2 : Int64) (vp2 vk2 : Int32) (sp : Int32) (up : Nat → Int32) (E : Nat) : Prop :=
  (∀ c, c < 42 → j_X2_placeOf vtr vled vh1 vt1 vh2 vt2 (nI c) = up c ∧ ∃ v, v < 6 ∧ up c = nI v) ∧ zr_lo up vled ∧ (zr_hand up 0 vh1 ∧ zr_hand up 1 vh2) ∧ (∃ t, t < 4 ∧ vtr = nI t) ∧ (zl_nn up 0 ≤ 6 ∧ zl_nn up 1 ≤ 6) ∧ (E ≤ 15 ∧ vdrawn = nI (12 + 2 * E) ∧ zl_nn up 2 + 2 * E = 30) ∧
  (∃ k0 k1, vk1 = nI k0 ∧ vk2 = nI k1 ∧ zl_nn up 4 + zl_nn up 5 = 2 * (k0 + k1)) ∧ vp1 + vp2 = pq_sum up 42 + 5 * sp ∧
  ((vmov = (-1) ∧ vled = (-1) ∧ zl_nn up 0 = 0 ∧ zl_nn up 1 = 0 ∧ E = 15) ∨ (∃ a b, a + b = 1 ∧ vmov = nI a ∧ ((vled = (-1) ∧ zl_nn up a = zl_nn up b) ∨ (¬ vled = (-1) ∧ zl_nn up a = zl_nn up b + 1)) ∧ 1 ≤ zl_nn up a ∧ (E < 15 → zl_nn up a = 6)))
def pq_R (vrow : Nat → Int32) (vdrawn vtr vled vmov vw1 vw2 : Int32) (vh1 vt1 : Int64) (vp1 vk1 vg1 : Int32) (vh2 vt2 : Int64) (vp2 vk2 vg2 : Int32) (sp f s : Int32) (n : Nat) (up : Nat → Int32) : Prop :=
  ∃ (ur us ut ug uw uh : Nat → Int32) (udrawn uon uturn uled utr : Int32), zr_R vrow vdrawn vtr vled vmov vw1 vw2 vh1 vt1 vp1 vk1 vg1 vh2 vt2 vp2 vk2 vg2 up ur us ut ug uw uh udrawn 1 uon uturn uled utr ∧ pq_J up us ut uw udrawn uon sp f s ∧ zl_nn up 0 + zl_nn up 1 + zl_nn up 2 ≤ n
section PV
variable {vrow : Nat → Int32} {vdrawn vtr vled vmov vw1 vw2 : Int32} {vh1 vt1 : Int64} {vp1 vk1 vg1 : Int32} {vh2 vt2 : Int64} {vp2 vk2 vg2 : Int32} {sp f s : Int32} {n : Nat} {up : Nat → Int32}
theorem pq_view (h : pq_R vrow vdrawn vtr vled vmov vw1 vw2 vh1 vt1 vp1 vk1 vg1 vh2 vt2 vp2 vk2 vg2 sp f s n up) : ∃ E, pq_V vdrawn vtr vled vmov vh1 vt1 vp1 vk1 vh2 vt2 vp2 vk2 sp up E := by
  obtain ⟨ur, us, ut, ug, uw, uh, udrawn, uon, uturn, uled, utr, hR, ⟨E, k0, k1, ⟨j1, j2⟩, ⟨j3, j4, j5⟩, j6, j7, j8, _⟩, _⟩ := h
  have hpo := fun (c : Nat) (hc : c < 42) => zr_placeOf hR (x := nI c) (by rw [zr_isCard hc]; decide)
  obtain ⟨⟨_, _, p1, p2, q1, q2, _, _⟩, _, _, _, hm, _, hd⟩ := hR
  rcases hd with ⟨d, _⟩ | ⟨_, t, a, b, E2, g, inv, ⟨ht, e1⟩, ⟨hab, e2⟩, ⟨hE, e3, e4⟩, ⟨g1, g2, _, _⟩, pl, lo, _, _, ⟨n0, n1⟩, hon⟩
  · exact absurd d (by decide)
  · have hEE : E2 = E := by
      have := (nI_eq (a := 2 * E2) (b := 2 * E) (by omega) (by omega)).mp (e3.symm.trans j2)
      omega
    subst hEE
    refine ⟨E2, fun c hc => ⟨?_, pl c hc⟩, lo, ⟨g1, g2⟩, ⟨t, ht, e1⟩, ⟨n0, n1⟩, ⟨hE, e4, j6⟩, ⟨k0, k1, by rw [q1, j3], by rw [q2, j4], j5⟩, by rw [p1, p2]; exact j7, ?_⟩
    · rw [hpo c hc]
      have hx3 : ¬ j_X3_isCard (nI c) = 0 := by
        have : ∀ c, c < 42 → ¬ j_X3_isCard (nI c) = 0 := by decide +kernel
        exact this c hc
      unfold j_X3_placeOf
      rw [if_neg hx3, if_neg (by decide), nI_clamp (by omega)]
    · rcases hm with ⟨o, m1, m2⟩ | ⟨o, m1⟩
      · obtain ⟨z0, z1, z2⟩ := j8 o
        exact Or.inl ⟨m1, m2, z0, z1, z2⟩
      · exact Or.inr ⟨a, b, hab, m1.trans e2, hon o⟩
end PV
/-! why a card may not be played -/
section PW
variable {vdrawn vtr vled vmov : Int32} {vh1 vt1 : Int64} {vp1 vk1 : Int32} {vh2 vt2 : Int64} {vp2 vk2 : Int32} {sp : Int32} {up : Nat → Int32} {E a b : Nat}
theorem pq_whyN (ha : a < 2) (g1 : zr_hand up 0 vh1) (g2 : zr_hand up 1 vh2) {c : Nat} (hc : c < 42) (u : ¬ up c = nI a) : j_X2_reasonAgainst vdrawn vtr vled (nI a) vh1 vh2 (nI c) = 2 := by
  have hh := zr_mh ha g1 g2
  unfold j_X2_reasonAgainst
  have z : j_X2_has (j_X2_moversHand (nI a) vh1 vh2) (nI c) = 0 := by
    rw [zs_has (by omega), hh]
    simp [zl_p, u]
  rw [if_neg (zs_nm1 a (by omega)), if_pos z]
theorem pq_whyH (ha : a < 2) (g1 : zr_hand up 0 vh1) (g2 : zr_hand up 1 vh2) {c : Nat} (hc : c < 42) (u : up c = nI a) : j_X2_reasonAgainst vdrawn vtr vled (nI a) vh1 vh2 (nI c) = (if vled = (-1) then j_X2_reasonAgainstLeading (j_X2_moversHand (nI a) vh1 vh2) (nI c) else (if 42 ≤ vdrawn then j_X2_reasonAgainstReplying (j_X2_moversHand (nI a) vh1 vh2) (nI c) vled vtr else 0)) := by
  have hh := zr_mh ha g1 g2
  have z : ¬ j_X2_has (j_X2_moversHand (nI a) vh1 vh2) (nI c) = 0 := by
    rw [zs_has (by omega), hh]
    simp [zl_p, u, hc]
  show (if nI a = (-1) then 1 else _) = _
  rw [if_neg (zs_nm1 a (by omega)), if_neg z]
theorem pq_rl3 (h : Int64) (c : Nat) (hc : c < 42) : j_X2_reasonAgainstLeading h (nI c) = 0 ∨ (j_X2_reasonAgainstLeading h (nI c) = 3 ∧ 40 ≤ c) := by
  unfold j_X2_reasonAgainstLeading
  by_cases q : j_X2_isMildew (nI c) = 0
  · rw [if_pos q]; exact Or.inl rfl
  · rw [if_neg q]
    by_cases r : lg_cmp (h &&& 1099511627775) 0 = 0
    · rw [if_pos r]; exact Or.inl rfl
    · rw [if_neg r]
      refine Or.inr ⟨rfl, ?_⟩
      rcases Nat.lt_or_ge c 40 with z | z
      · exact absurd ((zs_mil c hc).mpr z) q
      · exact z
theorem pq_rf45 (h : Int64) (c l : Nat) (vtr : Int32) (hl : l < 42) : j_X2_reasonAgainstReplying h (nI c) (nI l) vtr = 0 ∨ ((j_X2_reasonAgainstReplying h (nI c) (nI l) vtr = 4 ∨ j_X2_reasonAgainstReplying h (nI c) (nI l) vtr = 5) ∧ l < 40) := by
  unfold j_X2_reasonAgainstReplying
  by_cases q : j_X2_isMildew (nI l) = 0
  · have l40 := (zs_mil l hl).mp q
    rw [if_pos q]
    by_cases r : lg_cmp (h &&& (j_X2_allOf (nI l / 10))) 0 = 0
    · rw [if_pos r]
      by_cases t : lg_cmp (h &&& (j_X2_allOf vtr)) 0 = 0
      · rw [if_pos t]; exact Or.inl rfl
      · rw [if_neg t]
        by_cases w : j_X2_has (h &&& (j_X2_allOf vtr)) (nI c) = 0
        · rw [if_pos w]; exact Or.inr ⟨Or.inr rfl, l40⟩
        · rw [if_neg w]; exact Or.inl rfl
    · rw [if_neg r]
      by_cases w : j_X2_has (h &&& (j_X2_allOf (nI l / 10))) (nI c) = 0
      · rw [if_pos w]; exact Or.inr ⟨Or.inl rfl, l40⟩
      · rw [if_neg w]; exact Or.inl rfl
  · rw [if_neg q]; exact Or.inl rfl
theorem pq_42 (hE : E ≤ 15) : (42 : Int32) ≤ nI (12 + 2 * E) ↔ E = 15 := by
  have e1 : (42 : Int32) ≤ nI (12 + 2 * E) ↔ 42 ≤ 12 + 2 * E := nI_leI (a := 42) (by decide) (by omega)
  rw [e1]
  omega
/-- the reasons of a card in hand -/
theorem pq_why (ha : a < 2) (g1 : zr_hand up 0 vh1) (g2 : zr_hand up 1 vh2) (lo : zr_lo up vled) (hE : E ≤ 15) (hd : vdrawn = nI (12 + 2 * E)) {c : Nat} (hc : c < 42) (u : up c = nI a) :
    j_X2_reasonAgainst vdrawn vtr vled (nI a) vh1 vh2 (nI c) = 0 ∨ (j_X2_reasonAgainst vdrawn vtr vled (nI a) vh1 vh2 (nI c) = 3 ∧ 40 ≤ c ∧ vled = (-1)) ∨ ((j_X2_reasonAgainst vdrawn vtr vled (nI a) vh1 vh2 (nI c) = 4 ∨ j_X2_reasonAgainst vdrawn vtr vled (nI a) vh1 vh2 (nI c) = 5) ∧ E = 15 ∧ ∃ l, l < 40 ∧ vled = nI l) := by
  rw [pq_whyH ha g1 g2 hc u]
  rcases lo with ⟨e, _⟩ | ⟨l, hl, e, _⟩
  · rw [if_pos e]
    rcases pq_rl3 (j_X2_moversHand (nI a) vh1 vh2) c hc with q | ⟨q, r⟩
    · exact Or.inl q
    · exact Or.inr (Or.inl ⟨q, r, e⟩)
  · subst e
    rw [if_neg (zs_nm1 l hl), hd]
    by_cases z : (42 : Int32) ≤ nI (12 + 2 * E)
    · rw [if_pos z]
      rcases pq_rf45 (j_X2_moversHand (nI a) vh1 vh2) c l vtr hl with q | ⟨q, r⟩
      · exact Or.inl q
      · exact Or.inr (Or.inr ⟨q, (pq_42 hE).mp z, l, r, rfl⟩)
    · rw [if_neg z]; exact Or.inl rfl
/-- how many may be played, how many are mildew -/
abbrev pq_AL (vdrawn vtr vled : Int32) (vh1 vh2 : Int64) (up : Nat → Int32) (a : Nat) : Nat := fb_ct (fun c => zl_p up a c && decide (j_X2_reasonAgainst vdrawn vtr vled (nI a) vh1 vh2 (nI c) = 0)) 42
abbrev pq_ML (up : Nat → Int32) (a : Nat) : Nat := fb_ct (fun c => zl_p up a c && decide (40 ≤ c)) 42
theorem pq_ch (vdrawn vtr vled vmov : Int32) (vh1 vh2 : Int64) : ∀ (n i y : Nat), y = fb_ct (fun c => decide (j_X2_reasonAgainst vdrawn vtr vled vmov vh1 vh2 (nI c) = 0)) i → j_X2_choices_4 vdrawn vtr vled vmov vh1 vh2 n i (nI y) = nI (fb_ct (fun c => decide (j_X2_reasonAgainst vdrawn vtr vled vmov vh1 vh2 (nI c) = 0)) (i + n))
  | 0, i, y, h => by
    rw [h]; rfl
  | n + 1, i, y, h => by
    rw [j_X2_choices_4, show i + (n + 1) = (i + 1) + n by omega]
    by_cases q : j_X2_reasonAgainst vdrawn vtr vled vmov vh1 vh2 (nI i) = 0
    · rw [if_pos q, nI_1]
      exact pq_ch vdrawn vtr vled vmov vh1 vh2 n (i + 1) (y + 1) (by rw [fb_ct_succ, h, if_pos (decide_eq_true q)])
    · rw [if_neg q]
      exact pq_ch vdrawn vtr vled vmov vh1 vh2 n (i + 1) y (by rw [fb_ct_succ, h, if_neg (by simpa using q)]; rfl)
theorem pq_choices (ha : a < 2) (g1 : zr_hand up 0 vh1) (g2 : zr_hand up 1 vh2) : j_X2_choices vdrawn vtr vled (nI a) vh1 vh2 = nI (pq_AL vdrawn vtr vled vh1 vh2 up a) := by
  have e : j_X2_choices vdrawn vtr vled (nI a) vh1 vh2 = nI (fb_ct (fun c => decide (j_X2_reasonAgainst vdrawn vtr vled (nI a) vh1 vh2 (nI c) = 0)) (0 + 42)) := pq_ch vdrawn vtr vled (nI a) vh1 vh2 42 0 0 rfl
  rw [e]
  congr 1
  refine fb_ct_cong (fun c hc => ?_)
  by_cases u : up c = nI a
  · simp [zl_p, u]
  · have := pq_whyN (vdrawn := vdrawn) (vtr := vtr) (vled := vled) ha g1 g2 (show c < 42 by omega) u
    simp [zl_p, u, this]
theorem pq_choices0 : j_X2_choices vdrawn vtr vled (-1) vh1 vh2 = 0 := by
  have e : j_X2_choices vdrawn vtr vled (-1) vh1 vh2 = nI (fb_ct (fun c => decide (j_X2_reasonAgainst vdrawn vtr vled (-1) vh1 vh2 (nI c) = 0)) (0 + 42)) := pq_ch vdrawn vtr vled (-1) vh1 vh2 42 0 0 rfl
  rw [e]
  have : fb_ct (fun c => decide (j_X2_reasonAgainst vdrawn vtr vled (-1) vh1 vh2 (nI c) = 0)) (0 + 42) = 0 := by
    refine fb_ct_zero.mpr (fun c _ => ?_)
    have : j_X2_reasonAgainst vdrawn vtr vled (-1) vh1 vh2 (nI c) = 1 := by
      unfold j_X2_reasonAgainst
      rw [if_pos rfl]
    simp [this]
  rw [this]; rfl
theorem pq_AL_le (vdrawn vtr vled : Int32) (vh1 vh2 : Int64) (up : Nat → Int32) (a : Nat) : pq_AL vdrawn vtr vled vh1 vh2 up a ≤ zl_nn up a := fb_ct_sub (fun k _ h => by simp at h; simpa [zl_p] using h.1)
theorem pq_lead_n (ha : a < 2) (g1 : zr_hand up 0 vh1) (g2 : zr_hand up 1 vh2) (e : vled = (-1)) : (pq_ML up a = zl_nn up a ∧ pq_AL vdrawn vtr vled vh1 vh2 up a = zl_nn up a) ∨ (pq_ML up a < zl_nn up a ∧ pq_AL vdrawn vtr vled vh1 vh2 up a + pq_ML up a = zl_nn up a) := by
  have hh := zr_mh ha g1 g2
  have R : ∀ c, c < 42 → up c = nI a → (j_X2_reasonAgainst vdrawn vtr vled (nI a) vh1 vh2 (nI c) = 0 ↔ zs_lead (j_X2_moversHand (nI a) vh1 vh2) c) := fun c hc u => by
    rw [pq_whyH ha g1 g2 hc u, if_pos e]
    exact zs_rl hc
  by_cases D : ∃ d, d < 40 ∧ up d = nI a
  · refine Or.inr ?_
    obtain ⟨d, hd, ud⟩ := D
    have R2 : ∀ c, c < 42 → up c = nI a → (j_X2_reasonAgainst vdrawn vtr vled (nI a) vh1 vh2 (nI c) = 0 ↔ ¬ 40 ≤ c) := fun c hc u => by
      rw [R c hc u]
      constructor
      · rintro (q | q)
        · omega
        · have := q d hd
          rw [hh] at this
          have h42 : d < 42 := by omega
          simp [zl_p, ud, h42] at this
      · intro q; exact Or.inl (by omega)
    have sum : pq_AL vdrawn vtr vled vh1 vh2 up a + pq_ML up a = zl_nn up a := by
      rw [← fb_ct_or]
      · refine fb_ct_cong (fun c hc => ?_)
        by_cases u : up c = nI a
        · have := R2 c hc u
          by_cases q : 40 ≤ c
          · simp [zl_p, u, q]
          · simp [zl_p, u, q, this.mpr q]
        · simp [zl_p, u]
      · intro c hc
        by_cases u : up c = nI a
        · have := R2 c hc u
          by_cases q : 40 ≤ c
          · have : ¬ j_X2_reasonAgainst vdrawn vtr vled (nI a) vh1 vh2 (nI c) = 0 := fun z => (this.mp z) q
            simp [this]
          · simp [q]
        · simp [zl_p, u]
    have pos : 0 < pq_AL vdrawn vtr vled vh1 vh2 up a := fb_ct_pos.mpr ⟨d, by omega, by
      have h0 := (R2 d (by omega) ud).mpr (by omega)
      simp [zl_p, ud, h0]⟩
    exact ⟨by omega, sum⟩
  · refine Or.inl ⟨fb_ct_cong (fun c hc => ?_), fb_ct_cong (fun c hc => ?_)⟩
    · by_cases u : up c = nI a
      · have : 40 ≤ c := by
          rcases Nat.lt_or_ge c 40 with z | z
          · exact absurd ⟨c, z, u⟩ D
          · exact z
        simp [zl_p, u, this]
      · simp [zl_p, u]
    · by_cases u : up c = nI a
      · have : j_X2_reasonAgainst vdrawn vtr vled (nI a) vh1 vh2 (nI c) = 0 := (R c hc u).mpr (Or.inr (fun d hd => by
          rw [hh]
          have : ¬ up d = nI a := fun z => D ⟨d, hd, z⟩
          simp [zl_p, this]))
        simp [zl_p, u, this]
      · simp [zl_p, u]
theorem pq_reply_n (ha : a < 2) (g1 : zr_hand up 0 vh1) (g2 : zr_hand up 1 vh2) (hE : E < 15) (hd : vdrawn = nI (12 + 2 * E)) (e : ¬ vled = (-1)) : pq_AL vdrawn vtr vled vh1 vh2 up a = zl_nn up a := by
  refine fb_ct_cong (fun c hc => ?_)
  by_cases u : up c = nI a
  · have : j_X2_reasonAgainst vdrawn vtr vled (nI a) vh1 vh2 (nI c) = 0 := by
      rw [pq_whyH ha g1 g2 hc u, if_neg e, hd, if_neg]
      intro z
      have := (pq_42 (by omega)).mp z
      omega
    simp [zl_p, u, this]
  · simp [zl_p, u]
theorem pq_some (ha : a < 2) (g1 : zr_hand up 0 vh1) (g2 : zr_hand up 1 vh2) (lo : zr_lo up vled) (hE : E ≤ 15) (hd : vdrawn = nI (12 + 2 * E)) (ht : ∃ t, t < 4 ∧ vtr = nI t) (hn : 1 ≤ zl_nn up a) : 0 < pq_AL vdrawn vtr vled vh1 vh2 up a := by
  have hh := zr_mh ha g1 g2
  obtain ⟨t, ht, et⟩ := ht
  rcases lo with ⟨e, _⟩ | ⟨l, hl, e, _⟩
  · rcases pq_lead_n (vdrawn := vdrawn) (vtr := vtr) ha g1 g2 e with ⟨_, q⟩ | ⟨q1, q2⟩
    · omega
    · omega
  · have ne : ¬ vled = (-1) := by rw [e]; exact zs_nm1 l hl
    rcases Nat.lt_or_ge E 15 with z | z
    · rw [pq_reply_n ha g1 g2 z hd ne]; exact hn
    · have hw : zs_w (j_X2_moversHand (nI a) vh1 vh2) := zl_hw up hh
      have h0 : ¬ j_X2_moversHand (nI a) vh1 vh2 = 0 := by
        intro q
        rw [← zs_ct_nil hw, zl_hct up hh] at q
        omega
      obtain ⟨c, hc, hi, hf⟩ := zs_folE hw h0 t l
      have u : up c = nI a := by
        rw [hh] at hi
        simp [zl_p] at hi
        exact hi.2
      refine fb_ct_pos.mpr ⟨c, hc, ?_⟩
      have : j_X2_reasonAgainst vdrawn vtr vled (nI a) vh1 vh2 (nI c) = 0 := by
        rw [pq_whyH ha g1 g2 hc u, if_neg ne, hd, if_pos ((pq_42 hE).mpr (by omega)), e, et]
        exact (zs_rf hc hl ht hi).mpr hf
      simp [zl_p, u, this]
end PW
