/-! THE REFERENCE'S TABLE: hands as masks over the cards that are held -/
def zm_h (f : Nat → Nat) (m : Nat) : Nat → Int64
  | 0 => 0
  | k + 1 => if m.testBit k = true then zm_h f m k ||| (j_X2_bit (nI (f k))) else zm_h f m k
theorem zm_in {f : Nat → Nat} {m : Nat} : ∀ (n : Nat), (∀ k, k < n → f k < 42) → ∀ c, zs_in (zm_h f m n) c = true ↔ ∃ k, k < n ∧ m.testBit k = true ∧ f k = c
  | 0, _, c => by
    show zs_in 0 c = true ↔ _
    rw [zs_0]
    exact ⟨fun h => absurd h (by decide), fun ⟨k, hk, _⟩ => absurd hk (Nat.not_lt_zero k)⟩
  | n + 1, h, c => by
    have ih := zm_in (f := f) (m := m) n (fun k hk => h k (by omega)) c
    show zs_in (if m.testBit n = true then zm_h f m n ||| (j_X2_bit (nI (f n))) else zm_h f m n) c = true ↔ _
    by_cases t : m.testBit n = true
    · rw [if_pos t, zs_add (by have := h n (by omega); omega), Bool.or_eq_true, ih, decide_eq_true_eq]
      constructor
      · rintro (⟨k, hk, a, b⟩ | e)
        · exact ⟨k, by omega, a, b⟩
        · exact ⟨n, by omega, t, e.symm⟩
      · rintro ⟨k, hk, a, b⟩
        rcases Nat.lt_or_ge k n with q | q
        · exact Or.inl ⟨k, q, a, b⟩
        · have : k = n := by omega
          subst this
          exact Or.inr b.symm
    · rw [if_neg t, ih]
      constructor
      · rintro ⟨k, hk, a, b⟩
        exact ⟨k, by omega, a, b⟩
      · rintro ⟨k, hk, a, b⟩
        rcases Nat.lt_or_ge k n with q | q
        · exact ⟨k, q, a, b⟩
        · have : k = n := by omega
          subst this
          exact absurd a t
def zm_hd (held : Nat → Int32) (cd : Nat → Nat → Nat) (nn : Nat → Nat) : Prop := ∀ a, a < 2 → nn a ≤ 6 ∧ (∀ k, k < nn a → held (6 * a + k) = nI (cd a k) ∧ cd a k < 42) ∧ (∀ j k, j < k → k < nn a → cd a j < cd a k)
abbrev zm_H (cd : Nat → Nat → Nat) (nn : Nat → Nat) (a m : Nat) : Int64 := zm_h (cd a) m (nn a)
abbrev zm_pc (m : Nat) : Nat := fb_ct m.testBit 6
theorem zm_bit : ∀ m, m < 64 → ∀ i, i < 6 → ((nI m >>> ((nI i) &&& 31)) &&& 1 = 1 ↔ m.testBit i = true) := by decide +kernel
theorem zm_drop : ∀ m, m < 64 → ∀ k, k < 6 → m.testBit k = true → nI m &&& (((1 : Int32) <<< ((nI k) &&& 31)) ^^^ (-1)) = nI (m - 2 ^ k) ∧ m - 2 ^ k < m ∧ zm_pc (m - 2 ^ k) + 1 = zm_pc m := by decide +kernel
theorem zm_tb : ∀ m, m < 64 → ∀ k, k < 6 → m.testBit k = true → ∀ j, j < 6 → (m - 2 ^ k).testBit j = (m.testBit j && !decide (j = k)) := by decide +kernel
theorem zm_many : ∀ m, m < 64 → j_X3_many (nI m) = nI (zm_pc m) := by decide +kernel
theorem zm_ix : ∀ a, a < 2 → ∀ k, k < 6 → ((6 * nI a) + nI k).toNatClampNeg = 6 * a + k := by decide +kernel
theorem zm_fl {a b : Nat} (h : a + b = 1) : 1 - nI a = nI b := by
  have : (a = 0 ∧ b = 1) ∨ (a = 1 ∧ b = 0) := by omega
  rcases this with ⟨h1, h2⟩ | ⟨h1, h2⟩
  · subst h1; subst h2; decide
  · subst h1; subst h2; decide
theorem zm_inj {held : Nat → Int32} {cd : Nat → Nat → Nat} {nn : Nat → Nat} (hd : zm_hd held cd nn) {a j k : Nat} (ha : a < 2) (hj : j < nn a) (hk : k < nn a) (e : cd a j = cd a k) : j = k := by
  rcases Nat.lt_trichotomy j k with q | q | q
  · have := (hd a ha).2.2 j k q hk; omega
  · exact q
  · have := (hd a ha).2.2 k j q hj; omega
theorem zm_bn {n m k : Nat} (hm : m < 2 ^ n) (t : m.testBit k = true) : k < n := by
  rcases Nat.lt_or_ge k n with q | q
  · exact q
  · have : m.testBit k = false := Nat.testBit_lt_two_pow (Nat.lt_of_lt_of_le hm (Nat.pow_le_pow_right (by decide) q))
    rw [this] at t
    exact absurd t (by decide)
theorem zm_64 {n m : Nat} (hm : m < 2 ^ n) (hn : n ≤ 6) : m < 64 := Nat.lt_of_lt_of_le hm (Nat.pow_le_pow_right (n := 2) (by decide) hn)
section ZM
variable {held : Nat → Int32} {cd : Nat → Nat → Nat} {nn : Nat → Nat}
theorem zm_Hin (hd : zm_hd held cd nn) {a : Nat} (ha : a < 2) (m c : Nat) : zs_in (zm_H cd nn a m) c = true ↔ ∃ k, k < nn a ∧ m.testBit k = true ∧ cd a k = c :=
  zm_in (nn a) (fun k hk => ((hd a ha).2.1 k hk).2) c
theorem zm_Hw (hd : zm_hd held cd nn) {a : Nat} (ha : a < 2) (m : Nat) : zs_w (zm_H cd nn a m) := by
  intro c hc
  cases e : zs_in (zm_H cd nn a m) c with
  | false => rfl
  | true =>
    obtain ⟨k, hk, _, q⟩ := (zm_Hin hd ha m c).mp e
    have := ((hd a ha).2.1 k hk).2
    omega
theorem zm_Hdrop (hd : zm_hd held cd nn) {a : Nat} (ha : a < 2) {m k : Nat} (hm : m < 2 ^ nn a) (t : m.testBit k = true) : zm_H cd nn a (m - 2 ^ k) = (zm_H cd nn a m) &&& ((j_X2_bit (nI (cd a k))) ^^^ (-1)) := by
  have hn := (hd a ha).1
  have hk := zm_bn hm t
  have hm64 := zm_64 hm hn
  have hck := ((hd a ha).2.1 k hk).2
  refine zs_ext (fun c _ => ?_)
  rw [zs_drop (by omega), Bool.eq_iff_iff, zm_Hin hd ha, Bool.and_eq_true, zm_Hin hd ha]
  constructor
  · rintro ⟨j, hj, u, e⟩
    rw [zm_tb m hm64 k (by omega) t j (by omega)] at u
    simp at u
    refine ⟨⟨j, hj, u.1, e⟩, ?_⟩
    simp
    intro q
    exact u.2 (zm_inj hd ha hj hk (e.trans q))
  · rintro ⟨⟨j, hj, u, e⟩, q⟩
    simp at q
    refine ⟨j, hj, ?_, e⟩
    rw [zm_tb m hm64 k (by omega) t j (by omega), u]
    have : ¬ j = k := fun x => q (by subst x; exact e.symm)
    simp [this]
theorem zm_Hct (hd : zm_hd held cd nn) {a : Nat} (ha : a < 2) : ∀ (N m : Nat), m < 2 ^ nn a → zm_pc m = N → zs_ct (zm_H cd nn a m) = N
  | 0, m, hm, h => by
    refine (zs_ct_nil (zm_Hw hd ha m)).mpr (zs_nil.mpr (fun c _ => ?_))
    cases e : zs_in (zm_H cd nn a m) c with
    | false => rfl
    | true =>
      obtain ⟨k, hk, t, _⟩ := (zm_Hin hd ha m c).mp e
      have := fb_ct_zero.mp h k (by have := (hd a ha).1; omega)
      rw [t] at this
      exact absurd this (by decide)
  | N + 1, m, hm, h => by
    have hn := (hd a ha).1
    have h' : fb_ct m.testBit 6 = N + 1 := h
    obtain ⟨k, hk, t⟩ := fb_ct_pos.mp (show 0 < fb_ct m.testBit 6 by omega)
    have dr := zm_drop m (zm_64 hm hn) k hk t
    have ih := zm_Hct hd ha N (m - 2 ^ k) (by omega) (by omega)
    have hkn := zm_bn hm t
    have ck := ((hd a ha).2.1 k hkn).2
    rw [zm_Hdrop hd ha hm t] at ih
    have := zs_ct_drop ck ((zm_Hin hd ha m (cd a k)).mpr ⟨k, hkn, t, rfl⟩)
    omega
theorem zm_Hnil (hd : zm_hd held cd nn) {a : Nat} (ha : a < 2) {m : Nat} (hm : m < 2 ^ nn a) : zm_H cd nn a m = 0 ↔ zm_pc m = 0 := by
  rw [← zs_ct_nil (zm_Hw hd ha m), zm_Hct hd ha (zm_pc m) m hm rfl]
theorem zm_pc6 (m : Nat) : zm_pc m ≤ 6 := fb_ct_le _ 6
theorem zm_sz (hd : zm_hd held cd nn) {a b m o : Nat} (ha : a < 2) (hb : b < 2) (hm : m < 2 ^ nn a) (ho : o < 2 ^ nn b) (hp : zm_pc m = zm_pc o) : zs_sz 12 (zm_H cd nn a m) (zm_H cd nn b o) (-1) := by
  have e1 := zm_Hct hd ha _ m hm rfl
  have e2 := zm_Hct hd hb _ o ho rfl
  have := zm_pc6 m
  have := zm_pc6 o
  exact ⟨zm_Hw hd ha m, zm_Hw hd hb o, by omega, Or.inl ⟨rfl, by omega⟩⟩
/-! what may be led and followed, by masks -/
theorem zm_mil3 : ∀ c, c < 42 → (j_X3_isMildew (nI c) = 0 ↔ c < 40) := by decide +kernel
theorem zm_prov : ∀ c, c < 42 → j_X3_provenance (nI c) = nI (c / 10) := by decide +kernel
theorem zm_rem : ∀ c, c < 42 → nI c - nI c / 10 * 10 = nI (c % 10) := by decide +kernel
theorem zm_am6 {a m : Nat} (ha : a < 2) (hm : m < 64) (x2 : Int32) : ∀ (n i : Nat) (y : Int32), i + n ≤ 6 → (j_X3_isAmong_6 held (nI a) (nI m) x2 n i y = 0 ↔ (y = 0 ∧ ∀ k, i ≤ k → k < i + n → m.testBit k = true → ¬ (j_X3_isMildew (held (6 * a + k)) = 0 ∧ (x2 < 0 ∨ j_X3_provenance (held (6 * a + k)) = x2))))
  | 0, i, y, _ => by
    show y = 0 ↔ _
    exact ⟨fun h => ⟨h, fun k h1 h2 => by omega⟩, fun h => h.1⟩
  | n + 1, i, y, hi => by
    have ih := fun y => zm_am6 ha hm x2 n (i + 1) y (by omega)
    have hix := zm_ix a ha i (by omega)
    rw [j_X3_isAmong_6]
    have lift : ∀ {z : Prop}, (∀ k, i + 1 ≤ k → k < i + 1 + n → m.testBit k = true → ¬ (j_X3_isMildew (held (6 * a + k)) = 0 ∧ (x2 < 0 ∨ j_X3_provenance (held (6 * a + k)) = x2))) → (m.testBit i = true → ¬ (j_X3_isMildew (held (6 * a + i)) = 0 ∧ (x2 < 0 ∨ j_X3_provenance (held (6 * a + i)) = x2))) → (∀ k, i ≤ k → k < i + (n + 1) → m.testBit k = true → ¬ (j_X3_isMildew (held (6 * a + k)) = 0 ∧ (x2 < 0 ∨ j_X3_provenance (held (6 * a + k)) = x2))) := by
      intro _ h1 h2 k hk1 hk2 t
      rcases Nat.lt_or_ge i k with q | q
      · exact h1 k q (by omega) t
      · have : k = i := by omega
        subst this
        exact h2 t
    have low : (∀ k, i ≤ k → k < i + (n + 1) → m.testBit k = true → ¬ (j_X3_isMildew (held (6 * a + k)) = 0 ∧ (x2 < 0 ∨ j_X3_provenance (held (6 * a + k)) = x2))) → (∀ k, i + 1 ≤ k → k < i + 1 + n → m.testBit k = true → ¬ (j_X3_isMildew (held (6 * a + k)) = 0 ∧ (x2 < 0 ∨ j_X3_provenance (held (6 * a + k)) = x2))) := fun h k h1 h2 t => h k (by omega) (by omega) t
    have neg1 : ∀ {P Q : Prop}, ¬ Q → (j_X3_isAmong_6 held (nI a) (nI m) x2 n (i + 1) 1 = 0 ↔ (P ∧ Q)) := by
      intro P Q h
      rw [ih 1]
      exact ⟨fun k => absurd k.1 (by decide), fun k => absurd k.2 h⟩
    by_cases y0 : y = 0
    · rw [if_pos y0]
      by_cases t : m.testBit i = true
      · rw [if_pos ((zm_bit m hm i (by omega)).mpr t), hix]
        by_cases mi : j_X3_isMildew (held (6 * a + i)) = 0
        · rw [if_pos mi]
          by_cases c : x2 < 0
          · rw [if_pos c]
            exact neg1 (fun h => h i (Nat.le_refl _) (by omega) t ⟨mi, Or.inl c⟩)
          · rw [if_neg c]
            by_cases pr : j_X3_provenance (held (6 * a + i)) = x2
            · rw [if_pos pr]
              exact neg1 (fun h => h i (Nat.le_refl _) (by omega) t ⟨mi, Or.inr pr⟩)
            · rw [if_neg pr, ih 0]
              exact ⟨fun h => ⟨y0, lift (z := True) h.2 (fun _ k => k.2.elim c pr)⟩, fun h => ⟨rfl, low h.2⟩⟩
        · rw [if_neg mi, ih 0]
          exact ⟨fun h => ⟨y0, lift (z := True) h.2 (fun _ k => mi k.1)⟩, fun h => ⟨rfl, low h.2⟩⟩
      · rw [if_neg (fun e => t ((zm_bit m hm i (by omega)).mp e)), ih 0]
        exact ⟨fun h => ⟨y0, lift (z := True) h.2 (fun u => absurd u t)⟩, fun h => ⟨rfl, low h.2⟩⟩
    · rw [if_neg y0, ih 1]
      exact ⟨fun k => absurd k.1 (by decide), fun k => absurd k.1 y0⟩
theorem zm_am {a m : Nat} (ha : a < 2) (hm : m < 64) (x2 : Int32) : j_X3_isAmong held (nI a) (nI m) x2 = 0 ↔ ∀ k, k < 6 → m.testBit k = true → ¬ (j_X3_isMildew (held (6 * a + k)) = 0 ∧ (x2 < 0 ∨ j_X3_provenance (held (6 * a + k)) = x2)) := by
  refine (zm_am6 (held := held) ha hm x2 6 0 0 (by decide)).trans ⟨fun h k hk => h.2 k (Nat.zero_le _) (by omega), fun h => ⟨rfl, fun k _ hk => h k (by omega)⟩⟩
theorem zm_amL (hd : zm_hd held cd nn) {a m : Nat} (ha : a < 2) (hm : m < 2 ^ nn a) : j_X3_isAmong held (nI a) (nI m) (-1) = 0 ↔ ∀ c, c < 40 → zs_in (zm_H cd nn a m) c = false := by
  have hn := (hd a ha).1
  rw [zm_am ha (zm_64 hm hn)]
  constructor
  · intro h c hc
    cases e : zs_in (zm_H cd nn a m) c with
    | false => rfl
    | true =>
      obtain ⟨k, hk, t, q⟩ := (zm_Hin hd ha m c).mp e
      have u := (hd a ha).2.1 k hk
      refine absurd ⟨?_, Or.inl (by decide)⟩ (h k (by omega) t)
      rw [u.1]
      exact (zm_mil3 _ u.2).mpr (by omega)
  · intro h k hk t ⟨mi, _⟩
    have hkn := zm_bn hm t
    have u := (hd a ha).2.1 k hkn
    rw [u.1] at mi
    have := h (cd a k) ((zm_mil3 _ u.2).mp mi)
    rw [(zm_Hin hd ha m (cd a k)).mpr ⟨k, hkn, t, rfl⟩] at this
    exact absurd this (by decide)
theorem zm_amS (hd : zm_hd held cd nn) {a m p : Nat} (ha : a < 2) (hm : m < 2 ^ nn a) (hp : p < 4) : j_X3_isAmong held (nI a) (nI m) (nI p) = 0 ↔ ¬ zs_sE (zm_H cd nn a m) p := by
  have hn := (hd a ha).1
  rw [zm_am ha (zm_64 hm hn)]
  constructor
  · rintro h ⟨d, h1, h2, h3⟩
    obtain ⟨k, hk, t, q⟩ := (zm_Hin hd ha m d).mp h3
    have u := (hd a ha).2.1 k hk
    refine absurd ⟨?_, Or.inr ?_⟩ (h k (by omega) t)
    · rw [u.1]; exact (zm_mil3 _ u.2).mpr (by omega)
    · rw [u.1, zm_prov _ u.2, q, h2]
  · intro h k hk t ⟨mi, pr⟩
    have hkn := zm_bn hm t
    have u := (hd a ha).2.1 k hkn
    rw [u.1] at mi pr
    rcases pr with pr | pr
    · exact absurd pr (nI_pos (by omega))
    · rw [zm_prov _ u.2, nI_eq (by omega) (by omega)] at pr
      exact h ⟨cd a k, (zm_mil3 _ u.2).mp mi, pr, (zm_Hin hd ha m (cd a k)).mpr ⟨k, hkn, t, rfl⟩⟩
theorem zm_cl (hd : zm_hd held cd nn) {a m c : Nat} (ha : a < 2) (hm : m < 2 ^ nn a) (hc : c < 42) : ¬ j_X3_canLead held (nI a) (nI m) (nI c) = 0 ↔ zs_lead (zm_H cd nn a m) c := by
  unfold j_X3_canLead zs_lead
  by_cases q : c < 40
  · rw [if_pos ((zm_mil3 c hc).mpr q)]
    exact ⟨fun _ => Or.inl q, fun _ => by decide⟩
  · rw [if_neg (fun e => q ((zm_mil3 c hc).mp e))]
    by_cases s : j_X3_isAmong held (nI a) (nI m) (-1) = 0
    · rw [if_pos s]
      exact ⟨fun _ => Or.inr ((zm_amL hd ha hm).mp s), fun _ => by decide⟩
    · rw [if_neg s]
      exact ⟨fun e => absurd rfl e, fun e => e.elim (fun k => absurd k q) (fun k => absurd ((zm_amL hd ha hm).mpr k) s)⟩
theorem zm_trump {t c : Nat} (ht : t < 4) (hc : c < 42) : j_X3_isTrump (nI t) (nI c) = 0 ↔ ¬ (c < 40 ∧ c / 10 = t) := by
  unfold j_X3_isTrump
  by_cases q : c < 40
  · rw [if_pos ((zm_mil3 c hc).mpr q), zm_prov c hc]
    by_cases r : c / 10 = t
    · rw [if_pos (by rw [r])]
      exact ⟨fun e => absurd e (by decide), fun e => absurd ⟨q, r⟩ e⟩
    · rw [if_neg (fun e => r ((nI_eq (by omega) (by omega)).mp e))]
      exact ⟨fun _ k => r k.2, fun _ => rfl⟩
  · rw [if_neg (fun e => q ((zm_mil3 c hc).mp e))]
    exact ⟨fun _ k => q k.1, fun _ => rfl⟩
theorem zm_cf (hd : zm_hd held cd nn) {a m c l t : Nat} (ha : a < 2) (hm : m < 2 ^ nn a) (hc : c < 42) (hl : l < 42) (ht : t < 4) : ¬ j_X3_canFollow held (nI t) (nI a) (nI m) (nI c) (nI l) = 0 ↔ zs_fol (zm_H cd nn a m) t l c := by
  unfold j_X3_canFollow zs_fol
  by_cases q : l < 40
  · rw [if_pos ((zm_mil3 l hl).mpr q), zm_prov l hl]
    have hp : l / 10 < 4 := by omega
    by_cases s : zs_sE (zm_H cd nn a m) (l / 10)
    · rw [if_neg (fun e => (zm_amS hd ha hm hp).mp e s)]
      by_cases u : c < 40
      · rw [if_pos ((zm_mil3 c hc).mpr u), zm_prov c hc]
        by_cases v : c / 10 = l / 10
        · rw [if_pos (by rw [v])]
          exact ⟨fun _ => Or.inr (Or.inl ⟨s, u, v⟩), fun _ => by decide⟩
        · rw [if_neg (fun e => v ((nI_eq (by omega) (by omega)).mp e))]
          refine ⟨fun e => absurd rfl e, fun e => ?_⟩
          rcases e with e | e | e | e
          · omega
          · exact absurd e.2.2 v
          · exact absurd s e.1
          · exact absurd s e.1
      · rw [if_neg (fun e => u ((zm_mil3 c hc).mp e))]
        refine ⟨fun e => absurd rfl e, fun e => ?_⟩
        rcases e with e | e | e | e
        · omega
        · exact absurd e.2.1 u
        · exact absurd s e.1
        · exact absurd s e.1
    · rw [if_pos ((zm_amS hd ha hm hp).mpr s)]
      by_cases v : zs_sE (zm_H cd nn a m) t
      · rw [if_neg (fun e => (zm_amS hd ha hm ht).mp e v)]
        by_cases u : c < 40 ∧ c / 10 = t
        · rw [if_neg (fun e => (zm_trump ht hc).mp e u)]
          exact ⟨fun _ => Or.inr (Or.inr (Or.inl ⟨s, v, u⟩)), fun _ => by decide⟩
        · rw [if_pos ((zm_trump ht hc).mpr u)]
          refine ⟨fun e => absurd rfl e, fun e => ?_⟩
          rcases e with e | e | e | e
          · omega
          · exact absurd e.1 s
          · exact absurd e.2.2 u
          · exact absurd v e.2
      · rw [if_pos ((zm_amS hd ha hm ht).mpr v)]
        exact ⟨fun _ => Or.inr (Or.inr (Or.inr ⟨s, v⟩)), fun _ => by decide⟩
  · rw [if_neg (fun e => q ((zm_mil3 l hl).mp e))]
    exact ⟨fun _ => Or.inl (by omega), fun _ => by decide⟩
end ZM
