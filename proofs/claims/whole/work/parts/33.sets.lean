/-! CARDS IN A LONG: which a hand has, how many, what may be played -/
def zs_in (h : Int64) (c : Nat) : Bool := h.toBitVec.getLsbD c
theorem zs_ext {a b : Int64} (h : ∀ c, c < 64 → zs_in a c = zs_in b c) : a = b :=
  Int64.toBitVec_inj.mp (BitVec.eq_of_getLsbD_eq (fun c hc => h c hc))
theorem zs_big (h : Int64) {c : Nat} (hc : 64 ≤ c) : zs_in h c = false := BitVec.getLsbD_of_ge _ _ hc
theorem zs_and (a b : Int64) (c : Nat) : zs_in (a &&& b) c = (zs_in a c && zs_in b c) := by
  unfold zs_in; rw [Int64.toBitVec_and, BitVec.getLsbD_and]
theorem zs_or (a b : Int64) (c : Nat) : zs_in (a ||| b) c = (zs_in a c || zs_in b c) := by
  unfold zs_in; rw [Int64.toBitVec_or, BitVec.getLsbD_or]
theorem zs_xor (a b : Int64) (c : Nat) : zs_in (a ^^^ b) c = (zs_in a c ^^ zs_in b c) := by
  unfold zs_in; rw [Int64.toBitVec_xor, BitVec.getLsbD_xor]
theorem zs_m1 {c : Nat} (hc : c < 64) : zs_in (-1) c = true := by
  have h : (-1 : Int64).toBitVec = BitVec.allOnes 64 := by decide
  unfold zs_in; rw [h, BitVec.getLsbD_allOnes]; simpa using hc
theorem zs_0 (c : Nat) : zs_in 0 c = false := by
  have h : (0 : Int64).toBitVec = 0#64 := by decide
  unfold zs_in; rw [h]; simp
theorem zs_bitv : ∀ c, c < 64 → (j_X2_bit (nI c)).toBitVec = BitVec.twoPow 64 c := by decide +kernel
theorem zs_bit {c : Nat} (hc : c < 64) (d : Nat) : zs_in (j_X2_bit (nI c)) d = decide (d = c) := by
  unfold zs_in; rw [zs_bitv c hc, BitVec.getLsbD_twoPow]
  by_cases h : d = c
  · subst h; simp [hc]
  · have h' : ¬ c = d := fun e => h e.symm
    simp [h, h']
theorem zs_drop {c : Nat} (hc : c < 64) (h : Int64) (d : Nat) : zs_in (h &&& ((j_X2_bit (nI c)) ^^^ (-1))) d = (zs_in h d && !decide (d = c)) := by
  rw [zs_and, zs_xor, zs_bit hc]
  by_cases hd : d < 64
  · rw [zs_m1 hd]; simp
  · rw [zs_big h (by omega)]; simp
theorem zs_add {c : Nat} (hc : c < 64) (h : Int64) (d : Nat) : zs_in (h ||| (j_X2_bit (nI c))) d = (zs_in h d || decide (d = c)) := by
  rw [zs_or, zs_bit hc]
theorem zs_nil {h : Int64} : h = 0 ↔ ∀ c, c < 64 → zs_in h c = false :=
  ⟨fun e c _ => by rw [e]; exact zs_0 c, fun k => zs_ext fun c hc => by rw [k c hc, zs_0]⟩
theorem zs_cmp {h : Int64} : lg_cmp h 0 = 0 ↔ ∀ c, c < 64 → zs_in h c = false := (lg_cmp_eq h 0).trans zs_nil
theorem zs_ifc {p q : Prop} [Decidable p] {a : Int32} (e : p ↔ q) (ha : ¬ a = 0) : (if p then 0 else a) = 0 ↔ q := by
  by_cases h : p
  · rw [if_pos h]; exact ⟨fun _ => e.mp h, fun _ => rfl⟩
  · rw [if_neg h]; exact ⟨fun k => absurd k ha, fun k => absurd (e.mpr k) h⟩
theorem zs_shv : ∀ c, c < 64 → ((((nI c : Int32)).toInt64.toUInt64 &&& Int64.toUInt64 63).toBitVec % 64).toNat = c := by decide +kernel
theorem zs_sh {c : Nat} (hc : c < 64) (h : Int64) (d : Nat) : zs_in ((h.toUInt64 >>> ((nI c : Int32).toInt64.toUInt64 &&& Int64.toUInt64 63)).toInt64) d = zs_in h (c + d) := by
  show ((h.toUInt64 >>> ((nI c : Int32).toInt64.toUInt64 &&& Int64.toUInt64 63)).toBitVec).getLsbD d = h.toBitVec.getLsbD (c + d)
  rw [UInt64.toBitVec_shiftRight, BitVec.ushiftRight_eq', zs_shv c hc, BitVec.getLsbD_ushiftRight]
  rfl
theorem zs_one (d : Nat) : zs_in 1 d = decide (d = 0) := by
  have e : (1 : Int64) = j_X2_bit (nI 0) := by decide +kernel
  rw [e]; exact zs_bit (by decide) d
theorem zs_has {c : Nat} (hc : c < 64) (h : Int64) : j_X2_has h (nI c) = 0 ↔ zs_in h c = false := by
  have e : (lg_cmp (((h.toUInt64 >>> ((nI c : Int32).toInt64.toUInt64 &&& Int64.toUInt64 63)).toInt64) &&& 1) 0 = 0) ↔ zs_in h c = false := by
    rw [zs_cmp]
    constructor
    · intro k
      have := k 0 (by decide)
      rw [zs_and, zs_sh hc, zs_one] at this
      simpa using this
    · intro k d _
      rw [zs_and, zs_sh hc, zs_one]
      by_cases q : d = 0
      · subst q; simp [k]
      · simp [q]
  exact zs_ifc e (by decide)
theorem zs_datedv : ∀ c, c < 64 → zs_in 1099511627775 c = decide (c < 40) := by decide +kernel
theorem zs_allv : ∀ p, p < 4 → ∀ c, c < 64 → zs_in (j_X2_allOf (nI p)) c = decide (c / 10 = p) := by decide +kernel
theorem zs_dated (h : Int64) : lg_cmp (h &&& 1099511627775) 0 = 0 ↔ ∀ c, c < 40 → zs_in h c = false := by
  rw [zs_cmp]
  constructor
  · intro k c hc
    have := k c (by omega)
    rw [zs_and, zs_datedv c (by omega)] at this
    simpa [hc] using this
  · intro k c hc
    rw [zs_and, zs_datedv c hc]
    by_cases q : c < 40
    · simp [k c q]
    · simp [q]
theorem zs_suit {p : Nat} (hp : p < 4) (h : Int64) : lg_cmp (h &&& (j_X2_allOf (nI p))) 0 = 0 ↔ ∀ c, c < 40 → c / 10 = p → zs_in h c = false := by
  rw [zs_cmp]
  constructor
  · intro k c hc hq
    have := k c (by omega)
    rw [zs_and, zs_allv p hp c (by omega)] at this
    simpa [hq] using this
  · intro k c hc
    rw [zs_and, zs_allv p hp c hc]
    by_cases q : c / 10 = p
    · simp [k c (by omega) q]
    · simp [q]
/-- how many of the 42 -/
def zs_ct (h : Int64) : Nat := fb_ct (zs_in h) 42
def zs_w (h : Int64) : Prop := ∀ c, 42 ≤ c → zs_in h c = false
theorem zs_w_drop {c : Nat} (hc : c < 42) {h : Int64} (hw : zs_w h) : zs_w (h &&& ((j_X2_bit (nI c)) ^^^ (-1))) := by
  intro d hd
  rw [zs_drop (by omega), hw d hd]; rfl
theorem zs_ct_drop {c : Nat} (hc : c < 42) {h : Int64} (hi : zs_in h c = true) : zs_ct (h &&& ((j_X2_bit (nI c)) ^^^ (-1))) + 1 = zs_ct h := by
  unfold zs_ct
  have k := fb_ct_upd (zs_in h) false hc
  rw [hi] at k
  have e : fb_ct (zs_in (h &&& ((j_X2_bit (nI c)) ^^^ (-1)))) 42 = fb_ct (fun k => if k = c then false else zs_in h k) 42 :=
    fb_ct_cong (fun d _ => by
      rw [zs_drop (by omega)]
      by_cases q : d = c
      · simp [q]
      · simp [q])
  rw [e]
  simpa using k
theorem zs_ct_add {c : Nat} (hc : c < 42) {h : Int64} (hi : zs_in h c = false) : zs_ct (h ||| (j_X2_bit (nI c))) = zs_ct h + 1 := by
  unfold zs_ct
  have k := fb_ct_upd (zs_in h) true hc
  rw [hi] at k
  have e : fb_ct (zs_in (h ||| (j_X2_bit (nI c)))) 42 = fb_ct (fun k => if k = c then true else zs_in h k) 42 :=
    fb_ct_cong (fun d _ => by
      rw [zs_add (by omega)]
      by_cases q : d = c
      · simp [q]
      · simp [q])
  rw [e]
  simpa using k
theorem zs_ct_nil {h : Int64} (hw : zs_w h) : zs_ct h = 0 ↔ h = 0 := by
  unfold zs_ct
  rw [fb_ct_zero, zs_nil]
  constructor
  · intro k c _
    rcases Nat.lt_or_ge c 42 with q | q
    · exact k c q
    · exact hw c q
  · intro k c hc
    exact k c (by omega)
theorem zs_some {h : Int64} (hw : zs_w h) (h0 : ¬ h = 0) : ∃ c, c < 42 ∧ zs_in h c = true := by
  have k : 0 < zs_ct h := Nat.pos_of_ne_zero (fun e => h0 ((zs_ct_nil hw).mp e))
  exact fb_ct_pos.mp k
/-- what may be led, what may be answered -/
def zs_sE (h : Int64) (p : Nat) : Prop := ∃ d, d < 40 ∧ d / 10 = p ∧ zs_in h d = true
def zs_lead (h : Int64) (c : Nat) : Prop := c < 40 ∨ ∀ d, d < 40 → zs_in h d = false
def zs_fol (h : Int64) (t l c : Nat) : Prop := 40 ≤ l ∨ (zs_sE h (l / 10) ∧ c < 40 ∧ c / 10 = l / 10) ∨ (¬ zs_sE h (l / 10) ∧ zs_sE h t ∧ c < 40 ∧ c / 10 = t) ∨ (¬ zs_sE h (l / 10) ∧ ¬ zs_sE h t)
theorem zs_suitE {p : Nat} (hp : p < 4) (h : Int64) : lg_cmp (h &&& (j_X2_allOf (nI p))) 0 = 0 ↔ ¬ zs_sE h p := by
  rw [zs_suit hp]
  constructor
  · intro k ⟨d, h1, h2, h3⟩
    rw [k d h1 h2] at h3
    exact absurd h3 (by decide)
  · intro k c hc hq
    cases e : zs_in h c with
    | false => rfl
    | true => exact absurd ⟨c, hc, hq, e⟩ k
theorem zs_mil : ∀ c, c < 42 → (j_X2_isMildew (nI c) = 0 ↔ c < 40) := by decide +kernel
theorem zs_div : ∀ c, c < 42 → nI c / 10 = nI (c / 10) := by decide +kernel
theorem zs_rl {h : Int64} {c : Nat} (hc : c < 42) : j_X2_reasonAgainstLeading h (nI c) = 0 ↔ zs_lead h c := by
  unfold j_X2_reasonAgainstLeading zs_lead
  by_cases q : c < 40
  · rw [if_pos ((zs_mil c hc).mpr q)]
    exact ⟨fun _ => Or.inl q, fun _ => rfl⟩
  · rw [if_neg (fun e => q ((zs_mil c hc).mp e))]
    refine (zs_ifc (zs_dated h) (by decide)).trans ⟨Or.inr, fun k => ?_⟩
    rcases k with k | k
    · exact absurd k q
    · exact k
theorem zs_hasA {p c : Nat} (hp : p < 4) (hc : c < 42) {h : Int64} (hi : zs_in h c = true) : j_X2_has (h &&& (j_X2_allOf (nI p))) (nI c) = 0 ↔ ¬ (c < 40 ∧ c / 10 = p) := by
  rw [zs_has (by omega), zs_and, zs_allv p hp c (by omega), hi]
  constructor
  · intro k ⟨_, e⟩
    simp [e] at k
  · intro k
    have : ¬ c / 10 = p := fun e => k ⟨by omega, e⟩
    simp [this]
theorem zs_rf {h : Int64} {c l t : Nat} (hc : c < 42) (hl : l < 42) (ht : t < 4) (hi : zs_in h c = true) : j_X2_reasonAgainstReplying h (nI c) (nI l) (nI t) = 0 ↔ zs_fol h t l c := by
  unfold j_X2_reasonAgainstReplying zs_fol
  by_cases q : l < 40
  · rw [if_pos ((zs_mil l hl).mpr q), zs_div l hl]
    have hp : l / 10 < 4 := by omega
    by_cases s : zs_sE h (l / 10)
    · rw [if_neg (fun e => (zs_suitE hp h).mp e s)]
      by_cases u : c < 40 ∧ c / 10 = l / 10
      · rw [if_neg (fun e => (zs_hasA hp hc hi).mp e u)]
        exact ⟨fun _ => Or.inr (Or.inl ⟨s, u⟩), fun _ => rfl⟩
      · rw [if_pos ((zs_hasA hp hc hi).mpr u)]
        refine ⟨fun e => absurd e (by decide), fun e => ?_⟩
        rcases e with e | e | e | e
        · omega
        · exact absurd e.2 u
        · exact absurd s e.1
        · exact absurd s e.1
    · rw [if_pos ((zs_suitE hp h).mpr s)]
      by_cases v : zs_sE h t
      · rw [if_neg (fun e => (zs_suitE ht h).mp e v)]
        by_cases u : c < 40 ∧ c / 10 = t
        · rw [if_neg (fun e => (zs_hasA ht hc hi).mp e u)]
          exact ⟨fun _ => Or.inr (Or.inr (Or.inl ⟨s, v, u⟩)), fun _ => rfl⟩
        · rw [if_pos ((zs_hasA ht hc hi).mpr u)]
          refine ⟨fun e => absurd e (by decide), fun e => ?_⟩
          rcases e with e | e | e | e
          · omega
          · exact absurd e.1 s
          · exact absurd e.2.2 u
          · exact absurd v e.2
      · rw [if_pos ((zs_suitE ht h).mpr v)]
        exact ⟨fun _ => Or.inr (Or.inr (Or.inr ⟨s, v⟩)), fun _ => rfl⟩
  · rw [if_neg (fun e => q ((zs_mil l hl).mp e))]
    exact ⟨fun _ => Or.inl (by omega), fun _ => rfl⟩
theorem zs_nm1 : ∀ l, l < 42 → ¬ nI l = (-1) := by decide +kernel
theorem zs_mayL {h : Int64} {v : Int32} {c : Nat} (hc : c < 42) : ¬ j_X1_mayPlay v h (nI c) (-1) = 0 ↔ (zs_in h c = true ∧ zs_lead h c) := by
  unfold j_X1_mayPlay
  by_cases i : zs_in h c = true
  · rw [if_neg (fun e => by rw [(zs_has (by omega) h).mp e] at i; exact absurd i (by decide)), if_pos rfl]
    by_cases r : j_X2_reasonAgainstLeading h (nI c) = 0
    · rw [if_pos r]
      exact ⟨fun _ => ⟨i, (zs_rl hc).mp r⟩, fun _ => by decide⟩
    · rw [if_neg r]
      exact ⟨fun e => absurd rfl e, fun e => absurd ((zs_rl hc).mpr e.2) r⟩
  · rw [if_pos ((zs_has (by omega) h).mpr (by cases e : zs_in h c with | false => rfl | true => exact absurd e i))]
    exact ⟨fun e => absurd rfl e, fun e => absurd e.1 i⟩
theorem zs_mayF {h : Int64} {t l c : Nat} (hc : c < 42) (hl : l < 42) (ht : t < 4) : ¬ j_X1_mayPlay (nI t) h (nI c) (nI l) = 0 ↔ (zs_in h c = true ∧ zs_fol h t l c) := by
  unfold j_X1_mayPlay
  by_cases i : zs_in h c = true
  · rw [if_neg (fun e => by rw [(zs_has (by omega) h).mp e] at i; exact absurd i (by decide)), if_neg (zs_nm1 l hl)]
    by_cases r : j_X2_reasonAgainstReplying h (nI c) (nI l) (nI t) = 0
    · rw [if_pos r]
      exact ⟨fun _ => ⟨i, (zs_rf hc hl ht i).mp r⟩, fun _ => by decide⟩
    · rw [if_neg r]
      exact ⟨fun e => absurd rfl e, fun e => absurd ((zs_rf hc hl ht i).mpr e.2) r⟩
  · rw [if_pos ((zs_has (by omega) h).mpr (by cases e : zs_in h c with | false => rfl | true => exact absurd e i))]
    exact ⟨fun e => absurd rfl e, fun e => absurd e.1 i⟩
theorem zs_leadE {h : Int64} (hw : zs_w h) (h0 : ¬ h = 0) : ∃ c, c < 42 ∧ zs_in h c = true ∧ zs_lead h c := by
  by_cases q : ∃ d, d < 40 ∧ zs_in h d = true
  · obtain ⟨d, hd, hi⟩ := q
    exact ⟨d, by omega, hi, Or.inl hd⟩
  · obtain ⟨c, hc, hi⟩ := zs_some hw h0
    refine ⟨c, hc, hi, Or.inr (fun d hd => ?_)⟩
    cases e : zs_in h d with
    | false => rfl
    | true => exact absurd ⟨d, hd, e⟩ q
theorem zs_folE {h : Int64} (hw : zs_w h) (h0 : ¬ h = 0) (t l : Nat) : ∃ c, c < 42 ∧ zs_in h c = true ∧ zs_fol h t l c := by
  obtain ⟨c, hc, hi⟩ := zs_some hw h0
  by_cases q : 40 ≤ l
  · exact ⟨c, hc, hi, Or.inl q⟩
  · by_cases s : zs_sE h (l / 10)
    · obtain ⟨d, h1, h2, h3⟩ := s
      exact ⟨d, by omega, h3, Or.inr (Or.inl ⟨⟨d, h1, h2, h3⟩, h1, h2⟩)⟩
    · by_cases v : zs_sE h t
      · obtain ⟨d, h1, h2, h3⟩ := v
        exact ⟨d, by omega, h3, Or.inr (Or.inr (Or.inl ⟨s, ⟨d, h1, h2, h3⟩, h1, h2⟩))⟩
      · exact ⟨c, hc, hi, Or.inr (Or.inr (Or.inr ⟨s, v⟩))⟩
