/-! WHY NOT, AND THE BEST CARD: class and reference alike -/
abbrev zr_hand (up : Nat → Int32) (a : Nat) (h : Int64) : Prop := ∀ c, zs_in h c = (decide (c < 42) && zl_p up a c)
theorem zh_of5 (up : Nat → Int32) (x0 : Int32) {p : Nat} (hp : p < 100) : ∀ (n i : Nat) (y : Int32), i + n ≤ 40 → (j_X3_hasOf_5 up x0 (nI p) n i y = 0 ↔ (y = 0 ∧ ∀ c, i ≤ c → c < i + n → ¬ (up c = x0 ∧ c / 10 = p)))
  | 0, i, y, _ => by
    show y = 0 ↔ _
    exact ⟨fun h => ⟨h, fun c h1 h2 => by omega⟩, fun h => h.1⟩
  | n + 1, i, y, hi => by
    have ih := fun y => zh_of5 up x0 hp n (i + 1) y (by omega)
    rw [j_X3_hasOf_5, nI_clamp (by omega), zm_prov i (by omega)]
    have lift : (∀ c, i + 1 ≤ c → c < i + 1 + n → ¬ (up c = x0 ∧ c / 10 = p)) → ¬ (up i = x0 ∧ i / 10 = p) → ∀ c, i ≤ c → c < i + (n + 1) → ¬ (up c = x0 ∧ c / 10 = p) := by
      intro h1 h2 c hc1 hc2
      rcases Nat.lt_or_ge i c with q | q
      · exact h1 c q (by omega)
      · have : c = i := by omega
        subst this
        exact h2
    have low : (∀ c, i ≤ c → c < i + (n + 1) → ¬ (up c = x0 ∧ c / 10 = p)) → ∀ c, i + 1 ≤ c → c < i + 1 + n → ¬ (up c = x0 ∧ c / 10 = p) := fun h c h1 h2 => h c (by omega) (by omega)
    by_cases y0 : y = 0
    · rw [if_pos y0]
      by_cases u : up i = x0
      · rw [if_pos u]
        by_cases v : i / 10 = p
        · have v' : nI (i / 10) = nI p := by rw [v]
          rw [if_pos v', ih 1]
          exact ⟨fun k => absurd k.1 (by decide), fun k => absurd ⟨u, v⟩ (k.2 i (Nat.le_refl _) (by omega))⟩
        · have v' : ¬ nI (i / 10) = nI p := fun e => v ((nI_eq (by omega) (by omega)).mp e)
          rw [if_neg v', ih 0]
          exact ⟨fun k => ⟨y0, lift k.2 (fun w => v w.2)⟩, fun k => ⟨rfl, low k.2⟩⟩
      · rw [if_neg u, ih 0]
        exact ⟨fun k => ⟨y0, lift k.2 (fun w => u w.1)⟩, fun k => ⟨rfl, low k.2⟩⟩
    · rw [if_neg y0, ih 1]
      exact ⟨fun k => absurd k.1 (by decide), fun k => absurd k.1 y0⟩
theorem zh_of {up : Nat → Int32} {a p : Nat} {h : Int64} (hp : p < 100) (hh : zr_hand up a h) : j_X3_hasOf up (nI a) (nI p) = 0 ↔ ¬ zs_sE h p := by
  refine (zh_of5 up (nI a) hp 40 0 0 (by decide)).trans ⟨fun k => ?_, fun k => ⟨rfl, fun c _ hc w => k ⟨c, by omega, w.2, ?_⟩⟩⟩
  · rintro ⟨d, h1, h2, h3⟩
    rw [hh] at h3
    simp [zl_p] at h3
    exact k.2 d (Nat.zero_le _) (by omega) ⟨h3.2, h2⟩
  · rw [hh]
    have : c < 42 := by omega
    simp [zl_p, this, w.1]
theorem zh_dated {up : Nat → Int32} {a : Nat} {h : Int64} (hh : zr_hand up a h) : j_X3_hasDated up (nI a) = 0 ↔ ∀ c, c < 40 → zs_in h c = false := by
  have e0 : j_X3_hasOf up (nI a) 0 = 0 ↔ ¬ zs_sE h 0 := zh_of (by decide) hh
  have e1 : j_X3_hasOf up (nI a) 1 = 0 ↔ ¬ zs_sE h 1 := zh_of (by decide) hh
  have e2 : j_X3_hasOf up (nI a) 2 = 0 ↔ ¬ zs_sE h 2 := zh_of (by decide) hh
  have e3 : j_X3_hasOf up (nI a) 3 = 0 ↔ ¬ zs_sE h 3 := zh_of (by decide) hh
  have some : ∀ p, zs_sE h p → ¬ ∀ c, c < 40 → zs_in h c = false := by
    rintro p ⟨d, h1, _, h3⟩ k
    rw [k d h1] at h3
    exact absurd h3 (by decide)
  unfold j_X3_hasDated
  by_cases s0 : zs_sE h 0
  · rw [if_neg (fun e => e0.mp e s0)]
    exact ⟨fun e => absurd e (by decide), fun k => absurd k (some 0 s0)⟩
  · rw [if_pos (e0.mpr s0)]
    by_cases s1 : zs_sE h 1
    · rw [if_neg (fun e => e1.mp e s1)]
      exact ⟨fun e => absurd e (by decide), fun k => absurd k (some 1 s1)⟩
    · rw [if_pos (e1.mpr s1)]
      by_cases s2 : zs_sE h 2
      · rw [if_neg (fun e => e2.mp e s2)]
        exact ⟨fun e => absurd e (by decide), fun k => absurd k (some 2 s2)⟩
      · rw [if_pos (e2.mpr s2)]
        by_cases s3 : zs_sE h 3
        · rw [if_neg (fun e => e3.mp e s3)]
          exact ⟨fun e => absurd e (by decide), fun k => absurd k (some 3 s3)⟩
        · rw [if_pos (e3.mpr s3)]
          refine ⟨fun _ c hc => ?_, fun _ => rfl⟩
          cases r : zs_in h c with
          | false => rfl
          | true =>
            have : c / 10 = 0 ∨ c / 10 = 1 ∨ c / 10 = 2 ∨ c / 10 = 3 := by omega
            rcases this with q | q | q | q
            · exact absurd ⟨c, hc, q, r⟩ s0
            · exact absurd ⟨c, hc, q, r⟩ s1
            · exact absurd ⟨c, hc, q, r⟩ s2
            · exact absurd ⟨c, hc, q, r⟩ s3
theorem zr_mh {up : Nat → Int32} {a : Nat} {vh1 vh2 : Int64} (ha : a < 2) (h1 : zr_hand up 0 vh1) (h2 : zr_hand up 1 vh2) : zr_hand up a (j_X2_moversHand (nI a) vh1 vh2) := by
  have : a = 0 ∨ a = 1 := by omega
  rcases this with e | e
  · subst e
    unfold j_X2_moversHand
    rw [if_pos (by decide)]
    exact h1
  · subst e
    unfold j_X2_moversHand
    rw [if_neg (by decide)]
    exact h2
theorem zr_oh {up : Nat → Int32} {a b : Nat} {vh1 vh2 : Int64} (hab : a + b = 1) (h1 : zr_hand up 0 vh1) (h2 : zr_hand up 1 vh2) : zr_hand up b (j_X2_othersHand (nI a) vh1 vh2) := by
  have e : j_X2_othersHand (nI a) vh1 vh2 = j_X2_moversHand (nI b) vh1 vh2 := by
    unfold j_X2_othersHand j_X2_moversHand
    rw [zm_fl hab]
  rw [e]
  exact zr_mh (by omega) h1 h2
def zr_led (led : Int32) : Prop := led = (-1) ∨ ∃ l, l < 42 ∧ led = nI l
theorem zr_why1 {up : Nat → Int32} {a t c : Nat} {vdrawn udrawn ud uon led : Int32} {vh1 vh2 : Int64} (ha : a < 2) (ht : t < 4) (hc : c < 42) (h1 : zr_hand up 0 vh1) (h2 : zr_hand up 1 vh2) (hon : ¬ uon = 0) (hl : zr_led led) (hp : 42 ≤ vdrawn ↔ ¬ 0 < j_X3_inPile udrawn ud) :
    j_X3_why up udrawn ud uon (nI a) led (nI t) (nI c) = j_X2_reasonAgainst vdrawn (nI t) led (nI a) vh1 vh2 (nI c) := by
  have hm := zr_mh ha h1 h2
  unfold j_X3_why j_X2_reasonAgainst
  have a1 : ¬ nI a = (-1) := zs_nm1 a (by omega)
  rw [if_neg hon, if_neg a1, nI_clamp (by omega)]
  generalize j_X2_moversHand (nI a) vh1 vh2 = h at hm
  by_cases u : up c = nI a
  · have hi : zs_in h c = true := by rw [hm]; simp [zl_p, hc, u]
    have hn : ¬ j_X2_has h (nI c) = 0 := fun e => by
      rw [(zs_has (by omega) h).mp e] at hi
      exact absurd hi (by decide)
    rw [if_pos u, if_neg hn]
    rcases hl with hl | ⟨l, hl, e⟩
    · subst hl
      rw [if_neg (by decide), if_pos rfl]
      unfold j_X2_reasonAgainstLeading
      by_cases q : c < 40
      · rw [if_pos ((zm_mil3 c hc).mpr q), if_pos ((zs_mil c hc).mpr q)]
      · rw [if_neg (fun e => q ((zm_mil3 c hc).mp e)), if_neg (fun e => q ((zs_mil c hc).mp e))]
        by_cases s : ∀ c, c < 40 → zs_in h c = false
        · rw [if_pos ((zh_dated hm).mpr s), if_pos ((zs_dated h).mpr s)]
        · rw [if_neg (fun e => s ((zh_dated hm).mp e)), if_neg (fun e => s ((zs_dated h).mp e))]
    · subst e
      rw [if_pos (nI_pos' (by omega)), if_neg (zs_nm1 l hl)]
      by_cases pl : 0 < j_X3_inPile udrawn ud
      · rw [if_pos pl, if_neg (fun e => hp.mp e pl)]
      · rw [if_neg pl, if_pos (hp.mpr pl)]
        unfold j_X2_reasonAgainstReplying
        by_cases q : l < 40
        · have hp4 : l / 10 < 4 := by omega
          rw [if_pos ((zm_mil3 l hl).mpr q), if_pos ((zs_mil l hl).mpr q), zm_prov l hl, zs_div l hl]
          by_cases s : zs_sE h (l / 10)
          · rw [if_neg (fun e => (zh_of (by omega) hm).mp e s), if_neg (fun e => (zs_suitE hp4 h).mp e s)]
            by_cases w : c < 40 ∧ c / 10 = l / 10
            · have w2 : nI (c / 10) = nI (l / 10) := by rw [w.2]
              rw [if_pos ((zm_mil3 c hc).mpr w.1), zm_prov c hc, if_pos w2, if_neg (fun e => (zs_hasA hp4 hc hi).mp e w)]
            · rw [if_pos ((zs_hasA hp4 hc hi).mpr w)]
              by_cases w1 : c < 40
              · have w2 : ¬ nI (c / 10) = nI (l / 10) := fun e => w ⟨w1, (nI_eq (by omega) (by omega)).mp e⟩
                rw [if_pos ((zm_mil3 c hc).mpr w1), zm_prov c hc, if_neg w2]
              · rw [if_neg (fun e => w1 ((zm_mil3 c hc).mp e))]
          · rw [if_pos ((zh_of (by omega) hm).mpr s), if_pos ((zs_suitE hp4 h).mpr s)]
            by_cases v : zs_sE h t
            · rw [if_neg (fun e => (zh_of (by omega) hm).mp e v), if_neg (fun e => (zs_suitE ht h).mp e v)]
              by_cases w : c < 40 ∧ c / 10 = t
              · rw [if_neg (fun e => (zm_trump ht hc).mp e w), if_neg (fun e => (zs_hasA ht hc hi).mp e w)]
              · rw [if_pos ((zm_trump ht hc).mpr w), if_pos ((zs_hasA ht hc hi).mpr w)]
            · rw [if_pos ((zh_of (by omega) hm).mpr v), if_pos ((zs_suitE ht h).mpr v)]
        · rw [if_neg (fun e => q ((zm_mil3 l hl).mp e)), if_neg (fun e => q ((zs_mil l hl).mp e))]
  · have hi : zs_in h c = false := by rw [hm]; simp [zl_p, u]
    rw [if_neg u, if_pos ((zs_has (by omega) h).mpr hi)]
theorem zr_why0 {up : Nat → Int32} {vdrawn udrawn ud uon uturn vtr utr vled uled vmov x : Int32} {vh1 vh2 : Int64} (hon : uon = 0) (hm : vmov = (-1)) : j_X3_why up udrawn ud uon uturn uled utr x = j_X2_reasonAgainst vdrawn vtr vled vmov vh1 vh2 x := by
  unfold j_X3_why j_X2_reasonAgainst
  rw [if_pos hon, if_pos hm]
theorem zr_may {a t c : Nat} {vdrawn led : Int32} {vh1 vh2 : Int64} (ha : a < 2) (hd : 42 ≤ vdrawn) : (j_X2_reasonAgainst vdrawn (nI t) led (nI a) vh1 vh2 (nI c) = 0 ↔ ¬ j_X1_mayPlay (nI t) (j_X2_moversHand (nI a) vh1 vh2) (nI c) led = 0) := by
  have a1 : ¬ nI a = (-1) := zs_nm1 a (by omega)
  unfold j_X2_reasonAgainst j_X1_mayPlay
  rw [if_neg a1]
  by_cases q : j_X2_has (j_X2_moversHand (nI a) vh1 vh2) (nI c) = 0
  · rw [if_pos q, if_pos q]
    exact ⟨fun e => absurd e (by decide), fun e => absurd rfl e⟩
  · rw [if_neg q, if_neg q]
    by_cases l : led = (-1)
    · rw [if_pos l, if_pos l]
      by_cases r : j_X2_reasonAgainstLeading (j_X2_moversHand (nI a) vh1 vh2) (nI c) = 0
      · rw [if_pos r]; exact ⟨fun _ => by decide, fun _ => r⟩
      · rw [if_neg r]; exact ⟨fun e => absurd e r, fun e => absurd rfl e⟩
    · rw [if_neg l, if_neg l, if_pos hd]
      by_cases r : j_X2_reasonAgainstReplying (j_X2_moversHand (nI a) vh1 vh2) (nI c) led (nI t) = 0
      · rw [if_pos r]; exact ⟨fun _ => by decide, fun _ => r⟩
      · rw [if_neg r]; exact ⟨fun e => absurd e r, fun e => absurd rfl e⟩
/-! the first of the best -/
def zt_arg (P : Nat → Prop) (f : Nat → Int) (b : Int) (x res : Int32) : Prop := ((∀ j, P j → f j ≤ b) ∧ res = x) ∨ (∃ k, P k ∧ res = nI k ∧ b < f k ∧ (∀ j, P j → f j ≤ f k) ∧ (∀ j, P j → j < k → f j < f k))
theorem zt_argS {P P' : Nat → Prop} {f : Nat → Int} {b : Int} {x res : Int32} (h : zt_arg P' f b x res) (e : ∀ k, P k ↔ P' k) : zt_arg P f b x res := by
  have : P = P' := funext (fun k => propext (e k))
  rw [this]; exact h
theorem zt_argK {P P' : Nat → Prop} {f : Nat → Int} {b : Int} {x res : Int32} (i0 : Nat) (h : zt_arg P' f b x res) (hf : f i0 ≤ b) (e : ∀ k, P k ↔ (k = i0 ∨ P' k)) : zt_arg P f b x res := by
  rcases h with ⟨h, r⟩ | ⟨k, hk, r, h1, h2, h3⟩
  · refine Or.inl ⟨fun j hj => ?_, r⟩
    rcases (e j).mp hj with q | q
    · subst q; exact hf
    · exact h j q
  · refine Or.inr ⟨k, (e k).mpr (Or.inr hk), r, h1, fun j hj => ?_, fun j hj hl => ?_⟩
    · rcases (e j).mp hj with q | q
      · subst q; omega
      · exact h2 j q
    · rcases (e j).mp hj with q | q
      · subst q; omega
      · exact h3 j q hl
theorem zt_argT {P P' : Nat → Prop} {f : Nat → Int} {b : Int} {x res : Int32} (i0 : Nat) (h : zt_arg P' f (f i0) (nI i0) res) (hf : b < f i0) (hP : ∀ k, P' k → i0 < k) (e : ∀ k, P k ↔ (k = i0 ∨ P' k)) : zt_arg P f b x res := by
  rcases h with ⟨h, r⟩ | ⟨k, hk, r, h1, h2, h3⟩
  · refine Or.inr ⟨i0, (e i0).mpr (Or.inl rfl), r, hf, fun j hj => ?_, fun j hj hl => ?_⟩
    · rcases (e j).mp hj with q | q
      · subst q; exact Int.le_refl _
      · exact h j q
    · rcases (e j).mp hj with q | q
      · omega
      · have := hP j q; omega
  · refine Or.inr ⟨k, (e k).mpr (Or.inr hk), r, by omega, fun j hj => ?_, fun j hj hl => ?_⟩
    · rcases (e j).mp hj with q | q
      · subst q; omega
      · exact h2 j q
    · rcases (e j).mp hj with q | q
      · subst q; exact h1
      · exact h3 j q hl
theorem zt_rng {i n : Nat} {Q : Nat → Prop} (hQ : Q i) : ∀ k, ((i ≤ k ∧ k < i + (n + 1)) ∧ Q k) ↔ (k = i ∨ ((i + 1 ≤ k ∧ k < i + 1 + n) ∧ Q k)) := by
  intro k
  constructor
  · rintro ⟨h, q⟩
    by_cases e : k = i
    · exact Or.inl e
    · exact Or.inr ⟨by omega, q⟩
  · rintro (h | ⟨h, q⟩)
    · subst h; exact ⟨by omega, hQ⟩
    · exact ⟨by omega, q⟩
theorem zt_rngN {i n : Nat} {Q : Nat → Prop} (hQ : ¬ Q i) : ∀ k, ((i ≤ k ∧ k < i + (n + 1)) ∧ Q k) ↔ ((i + 1 ≤ k ∧ k < i + 1 + n) ∧ Q k) := by
  intro k
  constructor
  · rintro ⟨h, q⟩
    by_cases e : k = i
    · subst e; exact absurd q hQ
    · exact ⟨by omega, q⟩
  · rintro ⟨h, q⟩
    exact ⟨by omega, q⟩
theorem zt_low (vtr : Int32) (x1 x2 : Int64) (x3 x4 x5 : Int32) : ∀ (n i : Nat) (y8 y9 : Int32), zt_arg (fun k => (i ≤ k ∧ k < i + n) ∧ ¬ j_X1_mayPlay vtr x1 (nI k) x3 = 0) (fun k => (q_by vtr (q_m vtr 11) (nI k) x1 x2 x3 x4 x5).toInt) y8.toInt y9 (q_low vtr x1 x2 x3 x4 x5 n i y8 y9)
  | 0, i, y8, y9 => Or.inl ⟨fun j hj => by have := hj.1; omega, rfl⟩
  | n + 1, i, y8, y9 => by
    have ih := fun a b => zt_low vtr x1 x2 x3 x4 x5 n (i + 1) a b
    rw [q_low]
    by_cases m : j_X1_mayPlay vtr x1 (nI i) x3 = 0
    · rw [if_pos m]
      exact zt_argS (ih y8 y9) (zt_rngN (Q := fun k => ¬ j_X1_mayPlay vtr x1 (nI k) x3 = 0) (fun k => k m))
    · rw [if_neg m]
      by_cases c : q_by vtr (q_m vtr 11) (nI i) x1 x2 x3 x4 x5 ≤ y8
      · rw [if_pos c]
        exact zt_argK i (ih y8 y9) (Int32.le_iff_toInt_le.mp c) (zt_rng (Q := fun k => ¬ j_X1_mayPlay vtr x1 (nI k) x3 = 0) m)
      · rw [if_neg c]
        have c' : ¬ (q_by vtr (q_m vtr 11) (nI i) x1 x2 x3 x4 x5).toInt ≤ y8.toInt := fun e => c (Int32.le_iff_toInt_le.mpr e)
        exact zt_argT i (ih _ _) (Int.not_le.mp c') (fun k hk => by have := hk.1; omega) (zt_rng (Q := fun k => ¬ j_X1_mayPlay vtr x1 (nI k) x3 = 0) m)
abbrev zb_its (up glv : Nat → Int32) (udrawn ud uon uturn uled utr : Int32) (zh zt : Nat → Int32) (k : Nat) : Int32 := if ((if j_X3_why up udrawn ud uon uturn uled utr (zh ((6 * uturn) + (nI k)).toNatClampNeg) = 0 then 1 else 0) : Int32) = 0 then (-1000) else j_X3_byCard up glv zh zt ud uturn uled utr (nI k)
theorem zb_y1 (up glv : Nat → Int32) (udrawn ud uon uturn uled utr : Int32) (zh zt : Nat → Int32) : ∀ (n i : Nat) (y1 y2 : Int32), zt_arg (fun k => (i ≤ k ∧ k < i + n) ∧ True) (fun k => (zb_its up glv udrawn ud uon uturn uled utr zh zt k).toInt) y2.toInt y1 (j_X3_bestPlace_44_y1 up glv udrawn ud uon uturn uled utr zh zt n i y1 y2)
  | 0, i, y1, y2 => Or.inl ⟨fun j hj => by have := hj.1; omega, rfl⟩
  | n + 1, i, y1, y2 => by
    have ih := fun a b => zb_y1 up glv udrawn ud uon uturn uled utr zh zt n (i + 1) a b
    rw [j_X3_bestPlace_44_y1]
    by_cases c : zb_its up glv udrawn ud uon uturn uled utr zh zt i ≤ y2
    · rw [if_pos c, if_pos c]
      exact zt_argK i (ih y1 y2) (Int32.le_iff_toInt_le.mp c) (zt_rng (Q := fun _ => True) trivial)
    · rw [if_neg c, if_neg c]
      have c' : ¬ (zb_its up glv udrawn ud uon uturn uled utr zh zt i).toInt ≤ y2.toInt := fun e => c (Int32.le_iff_toInt_le.mpr e)
      exact zt_argT i (ih _ _) (Int.not_le.mp c') (fun k hk => by have := hk.1; omega) (zt_rng (Q := fun _ => True) trivial)
theorem zb_full : ∀ n, n ≤ 6 → zm_pc (2 ^ n - 1) = n := by decide +kernel
theorem zb_lt (n : Nat) : 2 ^ n - 1 < 2 ^ n := by have := Nat.two_pow_pos n; omega
theorem zb_tb {n k : Nat} (h : k < n) : (2 ^ n - 1).testBit k = true := by rw [Nat.testBit_two_pow_sub_one]; simpa using h
section ZB
variable {up held0 tab0 glv : Nat → Int32} {t a b : Nat} {led ud udrawn uon vdrawn : Int32} {vh1 vh2 : Int64}
/-- what a moment in the ending is -/
def zb_at (up : Nat → Int32) (t a b : Nat) (led : Int32) (vh1 vh2 : Int64) : Prop := t < 4 ∧ a + b = 1 ∧ zl_nn up 0 ≤ 6 ∧ zl_nn up 1 ≤ 6 ∧ zr_hand up 0 vh1 ∧ zr_hand up 1 vh2 ∧ 1 ≤ zl_nn up a ∧ ((led = (-1) ∧ zl_nn up a = zl_nn up b) ∨ (∃ l, l < 42 ∧ led = nI l ∧ zl_nn up a = zl_nn up b + 1))
theorem zb_inv (h : zb_at up t a b led vh1 vh2) (tab : Nat → Int32) : zl_inv (zl_cd (j_X3_laysHands_uheld up held0)) (zl_nn up) t (j_X3_laysTable_utab up held0 tab (nI t) (2 ^ zl_nn up 0 - 1) (2 ^ zl_nn up 1 - 1)) (2 ^ zl_nn up 0) 0 := by
  have hd := zl_ok up held0 h.2.2.1 h.2.2.2.1
  have p0 := Nat.two_pow_pos (zl_nn up 0)
  have p1 := Nat.two_pow_pos (zl_nn up 1)
  unfold j_X3_laysTable_utab
  exact zl_26 hd h.1 (by omega) _ 0 tab (by omega) (fun f s _ _ _ hl => by omega)
theorem zb_nn6 (h : zb_at up t a b led vh1 vh2) : zl_nn up a ≤ 6 ∧ zl_nn up b ≤ 6 := by
  obtain ⟨_, hab, h0, h1, _⟩ := h
  have : (a = 0 ∧ b = 1) ∨ (a = 1 ∧ b = 0) := by omega
  rcases this with ⟨e1, e2⟩ | ⟨e1, e2⟩
  · subst e1; subst e2; exact ⟨h0, h1⟩
  · subst e1; subst e2; exact ⟨h1, h0⟩
theorem zb_sz (h : zb_at up t a b led vh1 vh2) : zs_sz 12 (j_X2_moversHand (nI a) vh1 vh2) (j_X2_othersHand (nI a) vh1 vh2) led := by
  have n6 := zb_nn6 h
  obtain ⟨_, hab, _, _, g1, g2, _, hl⟩ := h
  have m := zr_mh (a := a) (by omega) g1 g2
  have o := zr_oh hab g1 g2
  refine ⟨zl_hw up m, zl_hw up o, ?_, ?_⟩
  · rw [zl_hct up m, zl_hct up o]; omega
  · rw [zl_hct up m, zl_hct up o]; exact hl
theorem zb_by (h : zb_at up t a b led vh1 vh2) (hu : ¬ ud = 0) (tab : Nat → Int32) {k : Nat} (hk : k < zl_nn up a) :
    j_X3_byCard up glv (j_X3_laysHands_uheld up held0) (j_X3_laysTable_utab up held0 tab (nI t) (2 ^ zl_nn up 0 - 1) (2 ^ zl_nn up 1 - 1)) ud (nI a) led (nI t) (nI k) = q_by (nI t) (q_m (nI t) 11) (nI (zl_cd (j_X3_laysHands_uheld up held0) a k)) (j_X2_moversHand (nI a) vh1 vh2) (j_X2_othersHand (nI a) vh1 vh2) led (nI a) (j_X3_wornNow glv) := by
  have inv := zb_inv (held0 := held0) h tab
  have sz := zb_sz h
  have n6 := zb_nn6 h
  obtain ⟨ht, hab, h0, h1, g1, g2, _, hl⟩ := h
  have hd := zl_ok up held0 h0 h1
  have ha : a < 2 := by omega
  have hb : b < 2 := by omega
  have m := zr_mh ha g1 g2
  have o := zr_oh hab g1 g2
  have ck := (hd a ha).2.1 k hk
  have fa := zl_full up held0 h0 h1 ha m
  have fb := zl_full up held0 h0 h1 hb o
  have tk := zb_tb hk
  have dk := zm_drop (2 ^ zl_nn up a - 1) (zm_64 (zb_lt _) n6.1) k (by omega) tk
  have pa := zb_full _ n6.1
  have pb := zb_full _ n6.2
  generalize j_X3_laysTable_utab up held0 tab (nI t) (2 ^ zl_nn up 0 - 1) (2 ^ zl_nn up 1 - 1) = T at inv ⊢
  generalize j_X3_laysHands_uheld up held0 = H at hd ck fa fb inv ⊢
  unfold j_X3_byCard
  rw [zm_fl hab, zl_hm up a hu, zl_hm up b hu, zl_all1 _ n6.1, zl_all1 _ n6.2, zm_ix a ha k (by omega), ck.1, dk.1]
  rcases hl with ⟨e, hn⟩ | ⟨l, hl, e, hn⟩
  · subst e
    rw [if_neg (by decide), zm_least hd (j_X3_wornNow glv) ht hab (zb_lt _) (zb_lt _) (by rw [pa, pb, hn]) tk ?_, fa, fb]
    · unfold q_by
      rw [if_pos rfl, zm_fl hab]
    · intro j tj
      have hj := zm_bn (zb_lt _) tj
      have dj := zm_drop (2 ^ zl_nn up b - 1) (zm_64 (zb_lt _) n6.2) j (by omega) tj
      have la := zb_lt (zl_nn up a)
      have lb := zb_lt (zl_nn up b)
      exact ⟨zl_all inv hab (by omega) (by omega) (by omega), zl_all inv (by omega) (by omega) (by omega) (by omega)⟩
  · subst e
    have la := zb_lt (zl_nn up a)
    have lb := zb_lt (zl_nn up b)
    have T1 := zl_all inv (show b + a = 1 by omega) lb (show 2 ^ zl_nn up a - 1 - 2 ^ k < 2 ^ zl_nn up a by omega) (by omega)
    have T2 := zl_all inv hab (show 2 ^ zl_nn up a - 1 - 2 ^ k < 2 ^ zl_nn up a by omega) lb (by omega)
    unfold zm_TA at T1 T2
    rw [zm_Hdrop hd ha la tk, fa, fb] at T1 T2
    rw [if_pos (nI_pos' (by omega)), zm_bhq ht (show b + a = 1 by omega) hl ck.2 T1 T2, Int32.neg_neg]
    refine zg_byd (zs_mono sz (by decide)) sz ck.2 ?_
    rw [← fa]
    exact (zm_Hin hd ha _ _).mpr ⟨k, hk, tk, rfl⟩
/-- best and bestCard -/
theorem zb_both (h : zb_at up t a b led vh1 vh2) (hu : ¬ ud = 0) (hon : ¬ uon = 0) (hd42 : 42 ≤ vdrawn) (hp : j_X3_inPile udrawn ud = 0) (tab : Nat → Int32) :
    j_X3_best up glv held0 tab udrawn ud uon (nI a) led (nI t) (2 ^ zl_nn up 0 - 1) (2 ^ zl_nn up 1 - 1) (zl_nn up a) = q_m (nI t) 12 (j_X2_moversHand (nI a) vh1 vh2) (j_X2_othersHand (nI a) vh1 vh2) led (nI a) (j_X3_wornNow glv) ∧
    j_X3_bestCard up glv held0 tab udrawn ud uon (nI a) led (nI t) (2 ^ zl_nn up 0 - 1) (2 ^ zl_nn up 1 - 1) (zl_nn up a) = q_low (nI t) (j_X2_moversHand (nI a) vh1 vh2) (j_X2_othersHand (nI a) vh1 vh2) led (nI a) (j_X3_wornNow glv) 42 0 (-1000) (-1) := by
  have by_ := fun k (hk : k < zl_nn up a) => zb_by (glv := glv) (held0 := held0) h hu tab hk
  have sz := zb_sz h
  have n6 := zb_nn6 h
  have hdd := zl_ok up held0 h.2.2.1 h.2.2.2.1
  obtain ⟨ht, hab, h0, h1, g1, g2, hn1, hl⟩ := h
  have ha : a < 2 := by omega
  have m := zr_mh ha g1 g2
  have fa := zl_full up held0 h0 h1 ha m
  have hled : zr_led led := by
    rcases hl with ⟨e, _⟩ | ⟨l, hl, e, _⟩
    · exact Or.inl e
    · exact Or.inr ⟨l, hl, e⟩
  have inH : ∀ c, zs_in (j_X2_moversHand (nI a) vh1 vh2) c = true ↔ ∃ k, k < zl_nn up a ∧ zl_cd (j_X3_laysHands_uheld up held0) a k = c := by
    intro c
    rw [← fa, zm_Hin hdd ha]
    exact ⟨fun ⟨k, hk, _, e⟩ => ⟨k, hk, e⟩, fun ⟨k, hk, e⟩ => ⟨k, hk, zb_tb hk, e⟩⟩
  have bp : j_X3_bestPlace up glv held0 tab udrawn ud uon (nI a) led (nI t) (2 ^ zl_nn up 0 - 1) (2 ^ zl_nn up 1 - 1) (zl_nn up a) = j_X3_bestPlace_44_y1 up glv udrawn ud uon (nI a) led (nI t) (j_X3_laysHands_uheld up held0) (j_X3_laysTable_utab up held0 tab (nI t) (2 ^ zl_nn up 0 - 1) (2 ^ zl_nn up 1 - 1)) (zl_nn up a) 0 (-1) (-1000) := by
    unfold j_X3_bestPlace
    rw [if_neg hon, if_pos hp]; rfl
  have M := zb_y1 up glv udrawn ud uon (nI a) led (nI t) (j_X3_laysHands_uheld up held0) (j_X3_laysTable_utab up held0 tab (nI t) (2 ^ zl_nn up 0 - 1) (2 ^ zl_nn up 1 - 1)) (zl_nn up a) 0 (-1) (-1000)
  rw [← bp, zg_m1000] at M
  have C := zt_low (nI t) (j_X2_moversHand (nI a) vh1 vh2) (j_X2_othersHand (nI a) vh1 vh2) led (nI a) (j_X3_wornNow glv) 42 0 (-1000) (-1)
  rw [zg_m1000] at C
  have Q := zt_qmax (nI t) (q_m (nI t) 11) (j_X2_moversHand (nI a) vh1 vh2) (j_X2_othersHand (nI a) vh1 vh2) led (nI a) (j_X3_wornNow glv) 42 0 (-1000)
  rw [zg_m1000] at Q
  have X0 : ¬ j_X2_moversHand (nI a) vh1 vh2 = 0 := by
    intro e
    have := zl_hct up m
    rw [(zs_ct_nil (zl_hw up m)).mpr e] at this
    omega
  have qe : q_m (nI t) 12 (j_X2_moversHand (nI a) vh1 vh2) (j_X2_othersHand (nI a) vh1 vh2) led (nI a) (j_X3_wornNow glv) = q_max (nI t) (q_m (nI t) 11) (j_X2_moversHand (nI a) vh1 vh2) (j_X2_othersHand (nI a) vh1 vh2) led (nI a) (j_X3_wornNow glv) 42 0 (-1000) := by
    show (if lg_cmp (j_X2_moversHand (nI a) vh1 vh2) 0 = 0 then (0 : Int32) else _) = _
    rw [if_neg (fun e => X0 ((lg_cmp_eq _ 0).mp e))]
  have why : ∀ k, k < zl_nn up a → (j_X3_why up udrawn ud uon (nI a) led (nI t) (j_X3_laysHands_uheld up held0 ((6 * nI a) + (nI k)).toNatClampNeg) = 0 ↔ ¬ j_X1_mayPlay (nI t) (j_X2_moversHand (nI a) vh1 vh2) (nI (zl_cd (j_X3_laysHands_uheld up held0) a k)) led = 0) := by
    intro k hk
    have ck := (hdd a ha).2.1 k hk
    rw [zm_ix a ha k (by omega), ck.1, zr_why1 (vdrawn := vdrawn) ha ht ck.2 g1 g2 hon hled ⟨fun _ e => by rw [hp] at e; exact absurd e (by decide), fun _ => hd42⟩]
    exact zr_may ha hd42
  have its : ∀ k, k < zl_nn up a → ¬ j_X1_mayPlay (nI t) (j_X2_moversHand (nI a) vh1 vh2) (nI (zl_cd (j_X3_laysHands_uheld up held0) a k)) led = 0 → zb_its up glv udrawn ud uon (nI a) led (nI t) (j_X3_laysHands_uheld up held0) (j_X3_laysTable_utab up held0 tab (nI t) (2 ^ zl_nn up 0 - 1) (2 ^ zl_nn up 1 - 1)) k = q_by (nI t) (q_m (nI t) 11) (nI (zl_cd (j_X3_laysHands_uheld up held0) a k)) (j_X2_moversHand (nI a) vh1 vh2) (j_X2_othersHand (nI a) vh1 vh2) led (nI a) (j_X3_wornNow glv) := by
    intro k hk my
    unfold zb_its
    rw [if_pos ((why k hk).mpr my), if_neg (by decide), by_ k hk]
  have itsN : ∀ k, k < zl_nn up a → j_X1_mayPlay (nI t) (j_X2_moversHand (nI a) vh1 vh2) (nI (zl_cd (j_X3_laysHands_uheld up held0) a k)) led = 0 → zb_its up glv udrawn ud uon (nI a) led (nI t) (j_X3_laysHands_uheld up held0) (j_X3_laysTable_utab up held0 tab (nI t) (2 ^ zl_nn up 0 - 1) (2 ^ zl_nn up 1 - 1)) k = (-1000) := by
    intro k hk my
    unfold zb_its
    rw [if_neg (fun e => (why k hk).mp e my), if_pos rfl]
  have bd : ∀ c, c < 42 → ¬ j_X1_mayPlay (nI t) (j_X2_moversHand (nI a) vh1 vh2) (nI c) led = 0 → -300 ≤ (q_by (nI t) (q_m (nI t) 11) (nI c) (j_X2_moversHand (nI a) vh1 vh2) (j_X2_othersHand (nI a) vh1 vh2) led (nI a) (j_X3_wornNow glv)).toInt ∧ (q_by (nI t) (q_m (nI t) 11) (nI c) (j_X2_moversHand (nI a) vh1 vh2) (j_X2_othersHand (nI a) vh1 vh2) led (nI a) (j_X3_wornNow glv)).toInt ≤ 300 :=
    fun c hc my => zg_bybd ht (by decide) sz hc (zs_mayIn hc my)
  obtain ⟨c0, hc0, my0⟩ := zs_mayE ht sz X0
  have b0 := bd c0 hc0 my0
  -- the class's card
  rcases C with ⟨C, _⟩ | ⟨c, ⟨hc, myc⟩, rc, Cb, Cm, Cs⟩
  · have : (q_by (nI t) (q_m (nI t) 11) (nI c0) (j_X2_moversHand (nI a) vh1 vh2) (j_X2_othersHand (nI a) vh1 vh2) led (nI a) (j_X3_wornNow glv)).toInt ≤ -1000 := C c0 ⟨⟨Nat.zero_le _, by omega⟩, my0⟩
    omega
  · obtain ⟨kc, hkc, ekc⟩ := (inH c).mp (zs_mayIn (by omega) myc)
    have myk : ¬ j_X1_mayPlay (nI t) (j_X2_moversHand (nI a) vh1 vh2) (nI (zl_cd (j_X3_laysHands_uheld up held0) a kc)) led = 0 := by rw [ekc]; exact myc
    have ikc := its kc hkc myk
    rw [ekc] at ikc
    rcases M with ⟨M, _⟩ | ⟨k, ⟨hk, _⟩, rk, Mb, Mm, Ms⟩
    · have u : (zb_its up glv udrawn ud uon (nI a) led (nI t) (j_X3_laysHands_uheld up held0) (j_X3_laysTable_utab up held0 tab (nI t) (2 ^ zl_nn up 0 - 1) (2 ^ zl_nn up 1 - 1)) kc).toInt ≤ -1000 := M kc ⟨⟨Nat.zero_le _, by omega⟩, trivial⟩
      rw [ikc] at u
      have := bd c (by omega) myc
      omega
    · have hk' : k < zl_nn up a := by omega
      have my : ¬ j_X1_mayPlay (nI t) (j_X2_moversHand (nI a) vh1 vh2) (nI (zl_cd (j_X3_laysHands_uheld up held0) a k)) led = 0 := by
        intro e
        have v : (-1000 : Int) < (zb_its up glv udrawn ud uon (nI a) led (nI t) (j_X3_laysHands_uheld up held0) (j_X3_laysTable_utab up held0 tab (nI t) (2 ^ zl_nn up 0 - 1) (2 ^ zl_nn up 1 - 1)) k).toInt := Mb
        rw [itsN k hk' e, zg_m1000] at v
        omega
      have ik := its k hk' my
      have ck := (hdd a ha).2.1 k hk'
      have ckc := (hdd a ha).2.1 kc hkc
      -- equal worth
      have q1 : (q_by (nI t) (q_m (nI t) 11) (nI (zl_cd (j_X3_laysHands_uheld up held0) a k)) (j_X2_moversHand (nI a) vh1 vh2) (j_X2_othersHand (nI a) vh1 vh2) led (nI a) (j_X3_wornNow glv)).toInt ≤ (q_by (nI t) (q_m (nI t) 11) (nI c) (j_X2_moversHand (nI a) vh1 vh2) (j_X2_othersHand (nI a) vh1 vh2) led (nI a) (j_X3_wornNow glv)).toInt := Cm _ ⟨⟨Nat.zero_le _, by omega⟩, my⟩
      have q2 : (zb_its up glv udrawn ud uon (nI a) led (nI t) (j_X3_laysHands_uheld up held0) (j_X3_laysTable_utab up held0 tab (nI t) (2 ^ zl_nn up 0 - 1) (2 ^ zl_nn up 1 - 1)) kc).toInt ≤ (zb_its up glv udrawn ud uon (nI a) led (nI t) (j_X3_laysHands_uheld up held0) (j_X3_laysTable_utab up held0 tab (nI t) (2 ^ zl_nn up 0 - 1) (2 ^ zl_nn up 1 - 1)) k).toInt := Mm kc ⟨⟨Nat.zero_le _, by omega⟩, trivial⟩
      rw [ikc, ik] at q2
      have same : zl_cd (j_X3_laysHands_uheld up held0) a k = c := by
        rcases Nat.lt_trichotomy k kc with l | l | l
        · have d := (hdd a ha).2.2 k kc l hkc
          have v := Cs (zl_cd (j_X3_laysHands_uheld up held0) a k) ⟨⟨Nat.zero_le _, by omega⟩, my⟩ (by omega)
          have v' : (q_by (nI t) (q_m (nI t) 11) (nI (zl_cd (j_X3_laysHands_uheld up held0) a k)) (j_X2_moversHand (nI a) vh1 vh2) (j_X2_othersHand (nI a) vh1 vh2) led (nI a) (j_X3_wornNow glv)).toInt < (q_by (nI t) (q_m (nI t) 11) (nI c) (j_X2_moversHand (nI a) vh1 vh2) (j_X2_othersHand (nI a) vh1 vh2) led (nI a) (j_X3_wornNow glv)).toInt := v
          omega
        · rw [l, ekc]
        · have v := Ms kc ⟨⟨Nat.zero_le _, by omega⟩, trivial⟩ l
          have v' : (zb_its up glv udrawn ud uon (nI a) led (nI t) (j_X3_laysHands_uheld up held0) (j_X3_laysTable_utab up held0 tab (nI t) (2 ^ zl_nn up 0 - 1) (2 ^ zl_nn up 1 - 1)) kc).toInt < (zb_its up glv udrawn ud uon (nI a) led (nI t) (j_X3_laysHands_uheld up held0) (j_X3_laysTable_utab up held0 tab (nI t) (2 ^ zl_nn up 0 - 1) (2 ^ zl_nn up 1 - 1)) k).toInt := v
          rw [ikc, ik] at v'
          omega
      have eh : j_X3_bestPlace_uheld up held0 udrawn ud uon = j_X3_laysHands_uheld up held0 := by
        unfold j_X3_bestPlace_uheld
        rw [if_neg hon, if_pos hp]; rfl
      have et : j_X3_bestPlace_utab up held0 tab udrawn ud uon (nI t) (2 ^ zl_nn up 0 - 1) (2 ^ zl_nn up 1 - 1) = j_X3_laysTable_utab up held0 tab (nI t) (2 ^ zl_nn up 0 - 1) (2 ^ zl_nn up 1 - 1) := by
        unfold j_X3_bestPlace_utab
        rw [if_neg hon, if_pos hp]
      constructor
      · unfold j_X3_best
        rw [rk, if_pos (nI_pos' (by omega)), eh, et, by_ k hk', same, qe]
        apply Int32.toInt_inj.mp
        have w1 : (q_by (nI t) (q_m (nI t) 11) (nI c) (j_X2_moversHand (nI a) vh1 vh2) (j_X2_othersHand (nI a) vh1 vh2) led (nI a) (j_X3_wornNow glv)).toInt ≤ (q_max (nI t) (q_m (nI t) 11) (j_X2_moversHand (nI a) vh1 vh2) (j_X2_othersHand (nI a) vh1 vh2) led (nI a) (j_X3_wornNow glv) 42 0 (-1000)).toInt := Q.2.1 c ⟨hc, myc⟩
        have bc := bd c (by omega) myc
        rcases Q.2.2 with e | ⟨d, hd, e⟩
        · omega
        · have w2 : (q_by (nI t) (q_m (nI t) 11) (nI d) (j_X2_moversHand (nI a) vh1 vh2) (j_X2_othersHand (nI a) vh1 vh2) led (nI a) (j_X3_wornNow glv)).toInt ≤ (q_by (nI t) (q_m (nI t) 11) (nI c) (j_X2_moversHand (nI a) vh1 vh2) (j_X2_othersHand (nI a) vh1 vh2) led (nI a) (j_X3_wornNow glv)).toInt := Cm d hd
          have e' : (q_by (nI t) (q_m (nI t) 11) (nI d) (j_X2_moversHand (nI a) vh1 vh2) (j_X2_othersHand (nI a) vh1 vh2) led (nI a) (j_X3_wornNow glv)).toInt = (q_max (nI t) (q_m (nI t) 11) (j_X2_moversHand (nI a) vh1 vh2) (j_X2_othersHand (nI a) vh1 vh2) led (nI a) (j_X3_wornNow glv) 42 0 (-1000)).toInt := e
          omega
      · unfold j_X3_bestCard
        rw [rk, if_pos (nI_pos' (by omega)), eh, zm_ix a ha k (by omega), ck.1, same, rc]
end ZB
