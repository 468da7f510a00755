/-! THE REFERENCE'S TABLE IS LAID; WHO HOLDS WHAT -/
theorem zl_p0 : ∀ f, f < 64 → ∀ s, s < 64 → ((64 * (nI f)) + (nI s)).toNatClampNeg = 64 * f + s := by decide +kernel
theorem zl_p1 : ∀ f, f < 64 → ∀ s, s < 64 → ((4096 + (64 * (nI f))) + (nI s)).toNatClampNeg = 4096 + (64 * f + s) := by decide +kernel
theorem zl_t0 : ∀ f, f < 64 → ∀ s, s < 64 → ((4096 * (nI 0)) + ((64 * (nI f)) + (nI s))).toNatClampNeg = 64 * f + s := by decide +kernel
theorem zl_t1 : ∀ f, f < 64 → ∀ s, s < 64 → ((4096 * (nI 1)) + ((64 * (nI f)) + (nI s))).toNatClampNeg = 4096 + (64 * f + s) := by decide +kernel
theorem zl_at0 {tab : Nat → Int32} {f s : Nat} (hf : f < 64) (hs : s < 64) : j_X3_tableAt tab (nI 0) (nI f) (nI s) = tab (64 * f + s) := by
  unfold j_X3_tableAt
  rw [if_pos (by decide), zl_t0 f hf s hs]
theorem zl_at1 {tab : Nat → Int32} {f s : Nat} (hf : f < 64) (hs : s < 64) : j_X3_tableAt tab (nI 1) (nI s) (nI f) = tab (4096 + (64 * f + s)) := by
  unfold j_X3_tableAt
  rw [if_neg (by decide), zl_t1 f hf s hs]
section ZL
variable {held : Nat → Int32} {cd : Nat → Nat → Nat} {nn : Nat → Nat}
def zl_inv (cd : Nat → Nat → Nat) (nn : Nat → Nat) (t : Nat) (tab : Nat → Int32) (o i : Nat) : Prop := ∀ f s, f < 2 ^ nn 0 → s < 2 ^ nn 1 → zm_pc f = zm_pc s → (f < o ∨ (f = o ∧ s < i)) → zm_TA cd nn t tab 0 1 f s ∧ zm_TA cd nn t tab 1 0 s f
theorem zl_keep (hd : zm_hd held cd nn) {t o i : Nat} {tab tab' : Nat → Int32} (h : zl_inv cd nn t tab o i)
    (k : ∀ f s, f < 2 ^ nn 0 → s < 2 ^ nn 1 → (f < o ∨ (f = o ∧ s < i)) → tab' (64 * f + s) = tab (64 * f + s) ∧ tab' (4096 + (64 * f + s)) = tab (4096 + (64 * f + s))) : zl_inv cd nn t tab' o i := by
  intro f s hf hs hp hl
  have f64 := zm_64 hf (hd 0 (by decide)).1
  have s64 := zm_64 hs (hd 1 (by decide)).1
  obtain ⟨T0, T1⟩ := h f s hf hs hp hl
  obtain ⟨k0, k1⟩ := k f s hf hs hl
  unfold zm_TA at T0 T1 ⊢
  rw [zl_at0 f64 s64] at T0 ⊢
  rw [zl_at1 f64 s64] at T1 ⊢
  rw [k0, k1]
  exact ⟨T0, T1⟩
theorem zl_step (hd : zm_hd held cd nn) {t o i : Nat} {tab : Nat → Int32} (ht : t < 4) (ho : o < 2 ^ nn 0) (hi : i < 2 ^ nn 1) (hp : zm_pc o = zm_pc i) (h : zl_inv cd nn t tab o i) :
    zl_inv cd nn t (upd (upd tab ((64 * (nI o)) + (nI i)).toNatClampNeg (j_X3_mostOf held tab (nI t) 0 (nI o) (nI i) 0)) ((4096 + (64 * (nI o))) + (nI i)).toNatClampNeg (j_X3_mostOf held (upd tab ((64 * (nI o)) + (nI i)).toNatClampNeg (j_X3_mostOf held tab (nI t) 0 (nI o) (nI i) 0)) (nI t) 1 (nI i) (nI o) 0)) o (i + 1) := by
  have o64 := zm_64 ho (hd 0 (by decide)).1
  have i64 := zm_64 hi (hd 1 (by decide)).1
  rw [zl_p0 o o64 i i64, zl_p1 o o64 i i64]
  have hT : ∀ (tb : Nat → Int32), zl_inv cd nn t tb o i → ∀ k, o.testBit k = true → ∀ j, i.testBit j = true → zm_TA cd nn t tb 0 1 (o - 2 ^ k) (i - 2 ^ j) ∧ zm_TA cd nn t tb 1 0 (i - 2 ^ j) (o - 2 ^ k) := by
    intro tb hv k tk j tj
    have hk := zm_bn ho tk
    have hj := zm_bn hi tj
    have dk := zm_drop o o64 k (by have := (hd 0 (by decide)).1; omega) tk
    have dj := zm_drop i i64 j (by have := (hd 1 (by decide)).1; omega) tj
    exact hv (o - 2 ^ k) (i - 2 ^ j) (by omega) (by omega) (by omega) (Or.inl dk.2.1)
  have e0 : j_X3_mostOf held tab (nI t) 0 (nI o) (nI i) 0 = q_m (nI t) 12 (zm_H cd nn 0 o) (zm_H cd nn 1 i) (-1) (nI 0) 0 :=
    zm_most (a := 0) (b := 1) hd ht rfl ho hi hp (hT tab h)
  have h1 : zl_inv cd nn t (upd tab (64 * o + i) (j_X3_mostOf held tab (nI t) 0 (nI o) (nI i) 0)) o i := by
    refine zl_keep hd h (fun f s hf hs hl => ?_)
    have f64 := zm_64 hf (hd 0 (by decide)).1
    have s64 := zm_64 hs (hd 1 (by decide)).1
    rw [pk_un (by omega), pk_un (by omega)]
    exact ⟨rfl, rfl⟩
  have e1 : j_X3_mostOf held (upd tab (64 * o + i) (j_X3_mostOf held tab (nI t) 0 (nI o) (nI i) 0)) (nI t) 1 (nI i) (nI o) 0 = q_m (nI t) 12 (zm_H cd nn 1 i) (zm_H cd nn 0 o) (-1) (nI 1) 0 :=
    zm_most (a := 1) (b := 0) hd ht rfl hi ho hp.symm (fun k tk j tj => (hT _ h1 j tj k tk).symm)
  have h2 : zl_inv cd nn t (upd (upd tab (64 * o + i) (j_X3_mostOf held tab (nI t) 0 (nI o) (nI i) 0)) (4096 + (64 * o + i)) (j_X3_mostOf held (upd tab (64 * o + i) (j_X3_mostOf held tab (nI t) 0 (nI o) (nI i) 0)) (nI t) 1 (nI i) (nI o) 0)) o i := by
    refine zl_keep hd h1 (fun f s hf hs hl => ?_)
    have f64 := zm_64 hf (hd 0 (by decide)).1
    have s64 := zm_64 hs (hd 1 (by decide)).1
    rw [pk_un (by omega), pk_un (j := 4096 + (64 * f + s)) (by omega)]
    exact ⟨rfl, rfl⟩
  intro f s hf hs hq hl
  by_cases c : f = o ∧ s = i
  · obtain ⟨c1, c2⟩ := c
    subst c1; subst c2
    unfold zm_TA
    rw [zl_at0 o64 i64, zl_at1 o64 i64, pk_us, pk_un (by omega), pk_us]
    exact ⟨e0, e1⟩
  · exact h2 f s hf hs hq (by omega)
theorem zl_34 (hd : zm_hd held cd nn) {t o : Nat} (ht : t < 4) (ho : o < 2 ^ nn 0) : ∀ (n i : Nat) (tab : Nat → Int32), i + n = 2 ^ nn 1 → zl_inv cd nn t tab o i → zl_inv cd nn t (j_X3_laysTable_34_utab (nI t) o held n i tab) (o + 1) 0
  | 0, i, tab, hi, h => by
    show zl_inv cd nn t tab (o + 1) 0
    intro f s hf hs hp hl
    exact h f s hf hs hp (by omega)
  | n + 1, i, tab, hi, h => by
    have o64 := zm_64 ho (hd 0 (by decide)).1
    have i64 := zm_64 (m := i) (n := nn 1) (by omega) (hd 1 (by decide)).1
    rw [j_X3_laysTable_34_utab, zm_many o o64, zm_many i i64]
    by_cases c : zm_pc o = zm_pc i
    · have c' : nI (zm_pc o) = nI (zm_pc i) := by rw [c]
      rw [if_pos c']
      exact zl_34 hd ht ho n (i + 1) _ (by omega) (zl_step hd ht ho (by omega) c h)
    · have a6 := zm_pc6 o
      have b6 := zm_pc6 i
      have c' : ¬ nI (zm_pc o) = nI (zm_pc i) := fun e => c ((nI_eq (by omega) (by omega)).mp e)
      rw [if_neg c']
      refine zl_34 hd ht ho n (i + 1) _ (by omega) (fun f s hf hs hp hl => h f s hf hs hp ?_)
      by_cases q : f = o ∧ s = i
      · obtain ⟨q1, q2⟩ := q
        subst q1; subst q2
        exact absurd hp c
      · omega
theorem zl_26 (hd : zm_hd held cd nn) {t kB : Nat} (ht : t < 4) (hB : kB + 1 = 2 ^ nn 1) : ∀ (n i : Nat) (tab : Nat → Int32), i + n = 2 ^ nn 0 → zl_inv cd nn t tab i 0 → zl_inv cd nn t (j_X3_laysTable_26_utab (nI t) kB held n i tab) (2 ^ nn 0) 0
  | 0, i, tab, hi, h => by
    have : i = 2 ^ nn 0 := by omega
    subst this
    exact h
  | n + 1, i, tab, hi, h => by
    rw [j_X3_laysTable_26_utab]
    exact zl_26 hd ht hB n (i + 1) _ (by omega) (zl_34 hd ht (by omega) (kB + 1) 0 tab (by omega) h)
theorem zl_all {t a b m o : Nat} {tab : Nat → Int32} (h : zl_inv cd nn t tab (2 ^ nn 0) 0) (hab : a + b = 1) (hm : m < 2 ^ nn a) (ho : o < 2 ^ nn b) (hp : zm_pc m = zm_pc o) : zm_TA cd nn t tab a b m o := by
  have : (a = 0 ∧ b = 1) ∨ (a = 1 ∧ b = 0) := by omega
  rcases this with ⟨h1, h2⟩ | ⟨h1, h2⟩
  · subst h1; subst h2
    exact (h m o hm ho hp (Or.inl hm)).1
  · subst h1; subst h2
    exact (h o m ho hm hp.symm (Or.inl ho)).2
end ZL
/-! the cards that are held, in their order -/
abbrev zl_p (up : Nat → Int32) (a : Nat) : Nat → Bool := fun c => decide (up c = nI a)
abbrev zl_nn (up : Nat → Int32) (a : Nat) : Nat := fb_ct (zl_p up a) 42
theorem zl_nIcl {i : Nat} (h : i < 2 ^ 31) : (nI i).toNatClampNeg = i := nI_clamp h
theorem zl_cnt (up : Nat → Int32) (a : Nat) : ∀ (n i : Nat), i + n ≤ 42 → fb_ct (zl_p up a) i + jx_cnt up (nI a) n i = fb_ct (zl_p up a) (i + n)
  | 0, i, _ => rfl
  | n + 1, i, h => by
    have ih := zl_cnt up a n (i + 1) (by omega)
    rw [fb_ct_succ] at ih
    rw [jx_cnt, nI_clamp (by omega), show i + (n + 1) = i + 1 + n by omega, ← ih]
    by_cases c : up i = nI a
    · have : zl_p up a i = true := by simp [zl_p, c]
      rw [if_pos c, if_pos this]; omega
    · have : ¬ zl_p up a i = true := by simp [zl_p, c]
      rw [if_neg c, if_neg this]; omega
theorem zl_cnt0 (up : Nat → Int32) (a : Nat) : jx_cnt up (nI a) 42 0 = zl_nn up a := by
  have := zl_cnt up a 42 0 (by decide)
  simpa [fb_ct] using this
theorem zl_hm4 (up : Nat → Int32) (a : Nat) {ud : Int32} (hu : ¬ ud = 0) : ∀ (n i y : Nat), i + n ≤ 42 → y = fb_ct (zl_p up a) i → j_X3_howMany_4 up ud (nI a) n i (nI y) = nI (fb_ct (zl_p up a) (i + n))
  | 0, i, y, _, e => by
    show nI y = _
    rw [e]; rfl
  | n + 1, i, y, h, e => by
    rw [j_X3_howMany_4, if_neg hu, nI_clamp (by omega), show i + (n + 1) = i + 1 + n by omega]
    have e2 : y ≤ 42 := by rw [e]; exact Nat.le_trans (fb_ct_le _ i) (by omega)
    by_cases c : up i = nI a
    · have k : zl_p up a i = true := by simp [zl_p, c]
      rw [if_pos c, nI_1]
      exact zl_hm4 up a hu n (i + 1) (y + 1) (by omega) (by rw [fb_ct_succ, if_pos k, e])
    · have k : ¬ zl_p up a i = true := by simp [zl_p, c]
      rw [if_neg c, show nI y + 0 = nI y from Int32.add_zero _]
      exact zl_hm4 up a hu n (i + 1) y (by omega) (by rw [fb_ct_succ, if_neg k, e]; rfl)
theorem zl_hm (up : Nat → Int32) (a : Nat) {ud : Int32} (hu : ¬ ud = 0) : j_X3_howMany up ud (nI a) = nI (zl_nn up a) := by
  have := zl_hm4 up a hu 42 0 0 (by decide) rfl
  exact this
theorem zl_all1 : ∀ n, n ≤ 6 → ((1 : Int32) <<< ((nI n) &&& 31)) - 1 = nI (2 ^ n - 1) := by decide +kernel
theorem zl_lh (up : Nat → Int32) {a : Nat} (ha : a < 2) (h6 : zl_nn up a ≤ 6) : ∀ (n i y : Nat) (zh : Nat → Int32), i + n = 42 → y = fb_ct (zl_p up a) i →
    (∀ c, i ≤ c → c < 42 → up c = nI a → j_X3_laysHands_11_uheld up (nI a) n i (nI y) zh (6 * a + fb_ct (zl_p up a) c) = nI c) ∧ (∀ j, (j < 6 * a + y ∨ 6 * a + 6 ≤ j) → j_X3_laysHands_11_uheld up (nI a) n i (nI y) zh j = zh j)
  | 0, i, y, zh, hi, e => ⟨fun c h1 h2 _ => by omega, fun j _ => rfl⟩
  | n + 1, i, y, zh, hi, e => by
    rw [j_X3_laysHands_11_uheld, nI_clamp (by omega)]
    by_cases c : up i = nI a
    · have k : zl_p up a i = true := by simp [zl_p, c]
      have e1 : y + 1 = fb_ct (zl_p up a) (i + 1) := by rw [fb_ct_succ, if_pos k, e]
      have le : fb_ct (zl_p up a) (i + 1) ≤ zl_nn up a := fb_ct_mono _ (by omega)
      rw [if_pos c, nI_1, zm_ix a ha y (by omega)]
      obtain ⟨ih1, ih2⟩ := zl_lh up ha h6 n (i + 1) (y + 1) (upd zh (6 * a + y) (nI i)) (by omega) e1
      refine ⟨fun d h1 h2 u => ?_, fun j hj => ?_⟩
      · rcases Nat.lt_or_ge i d with q | q
        · exact ih1 d q h2 u
        · have : d = i := by omega
          subst this
          rw [ih2 _ (Or.inl (by omega)), ← e, pk_us]
      · rw [ih2 j (by omega), pk_un (by omega)]
    · have k : ¬ zl_p up a i = true := by simp [zl_p, c]
      have e1 : y = fb_ct (zl_p up a) (i + 1) := by rw [fb_ct_succ, if_neg k, e]; rfl
      rw [if_neg c]
      obtain ⟨ih1, ih2⟩ := zl_lh up ha h6 n (i + 1) y zh (by omega) e1
      refine ⟨fun d h1 h2 u => ?_, ih2⟩
      rcases Nat.lt_or_ge i d with q | q
      · exact ih1 d q h2 u
      · have : d = i := by omega
        subst this
        exact absurd u c
abbrev zl_cd (held : Nat → Int32) : Nat → Nat → Nat := fun a k => (held (6 * a + k)).toNatClampNeg
theorem zl_held (up held0 : Nat → Int32) (h0 : zl_nn up 0 ≤ 6) (h1 : zl_nn up 1 ≤ 6) : ∀ a, a < 2 → ∀ c, c < 42 → up c = nI a → j_X3_laysHands_uheld up held0 (6 * a + fb_ct (zl_p up a) c) = nI c := by
  intro a ha c hc u
  have L1 := zl_lh up (a := 1) (by decide) h1 42 0 0 (j_X3_laysHands_11_uheld up (nI 0) 42 0 (nI 0) held0) (by decide) rfl
  have L0 := zl_lh up (a := 0) (by decide) h0 42 0 0 held0 (by decide) rfl
  have : a = 0 ∨ a = 1 := by omega
  rcases this with e | e
  · subst e
    have k : fb_ct (zl_p up 0) c + 1 ≤ zl_nn up 0 := by
      have k1 : zl_p up 0 c = true := by simp [zl_p, u]
      have k2 : fb_ct (zl_p up 0) (c + 1) ≤ zl_nn up 0 := fb_ct_mono _ (by omega)
      rw [fb_ct_succ, if_pos k1] at k2
      exact k2
    have e1 := L1.2 (6 * 0 + fb_ct (zl_p up 0) c) (Or.inl (by omega))
    have e0 := L0.1 c (Nat.zero_le _) hc u
    exact e1.trans e0
  · subst e
    exact L1.1 c (Nat.zero_le _) hc u
theorem zl_ok (up held0 : Nat → Int32) (h0 : zl_nn up 0 ≤ 6) (h1 : zl_nn up 1 ≤ 6) : zm_hd (j_X3_laysHands_uheld up held0) (zl_cd (j_X3_laysHands_uheld up held0)) (zl_nn up) := by
  have key := zl_held up held0 h0 h1
  have kth : ∀ a, a < 2 → ∀ k, k < zl_nn up a → ∃ c, c < 42 ∧ up c = nI a ∧ fb_ct (zl_p up a) c = k ∧ j_X3_laysHands_uheld up held0 (6 * a + k) = nI c ∧ zl_cd (j_X3_laysHands_uheld up held0) a k = c := by
    intro a ha k hk
    obtain ⟨c, hc, p, e⟩ := fb_ct_kth hk
    have u : up c = nI a := by simpa [zl_p] using p
    have r := key a ha c hc u
    rw [e] at r
    refine ⟨c, hc, u, e, r, ?_⟩
    show (j_X3_laysHands_uheld up held0 (6 * a + k)).toNatClampNeg = c
    rw [r, nI_clamp (by omega)]
  intro a ha
  refine ⟨?_, fun k hk => ?_, fun j k hjk hk => ?_⟩
  · have : a = 0 ∨ a = 1 := by omega
    rcases this with e | e
    · subst e; exact h0
    · subst e; exact h1
  · obtain ⟨c, hc, _, _, r, q⟩ := kth a ha k hk
    rw [q]
    exact ⟨r, hc⟩
  · obtain ⟨c, hc, _, e, _, q⟩ := kth a ha k hk
    obtain ⟨c', hc', _, e', _, q'⟩ := kth a ha j (by omega)
    rw [q, q']
    rcases Nat.lt_or_ge c' c with u | u
    · exact u
    · have := fb_ct_mono (zl_p up a) u
      omega
/-- a hand is the mask of all -/
theorem zl_full (up held0 : Nat → Int32) (h0 : zl_nn up 0 ≤ 6) (h1 : zl_nn up 1 ≤ 6) {a : Nat} (ha : a < 2) {h : Int64} (hh : ∀ c, zs_in h c = (decide (c < 42) && zl_p up a c)) : zm_H (zl_cd (j_X3_laysHands_uheld up held0)) (zl_nn up) a (2 ^ zl_nn up a - 1) = h := by
  have hd := zl_ok up held0 h0 h1
  have key := zl_held up held0 h0 h1
  refine zs_ext (fun c _ => ?_)
  rw [Bool.eq_iff_iff, zm_Hin hd ha, hh, Bool.and_eq_true, decide_eq_true_eq]
  constructor
  · rintro ⟨k, hk, _, q⟩
    obtain ⟨c', hc', p, e⟩ := fb_ct_kth hk
    have u : up c' = nI a := by simpa [zl_p] using p
    have r := key a ha c' hc' u
    rw [e] at r
    have : c = c' := by
      rw [← q]
      show (j_X3_laysHands_uheld up held0 (6 * a + k)).toNatClampNeg = c'
      rw [r, nI_clamp (by omega)]
    subst this
    exact ⟨hc', p⟩
  · rintro ⟨hc, p⟩
    have u : up c = nI a := by simpa [zl_p] using p
    have k2 : fb_ct (zl_p up a) (c + 1) ≤ zl_nn up a := fb_ct_mono _ (by omega)
    rw [fb_ct_succ, if_pos p] at k2
    refine ⟨fb_ct (zl_p up a) c, by omega, ?_, ?_⟩
    · rw [Nat.testBit_two_pow_sub_one, decide_eq_true_eq]
      omega
    · show (j_X3_laysHands_uheld up held0 (6 * a + fb_ct (zl_p up a) c)).toNatClampNeg = c
      rw [key a ha c hc u, nI_clamp (by omega)]
theorem zl_hct (up : Nat → Int32) {a : Nat} {h : Int64} (hh : ∀ c, zs_in h c = (decide (c < 42) && zl_p up a c)) : zs_ct h = zl_nn up a :=
  fb_ct_cong (fun c hc => by rw [hh]; simp [hc])
theorem zl_hw (up : Nat → Int32) {a : Nat} {h : Int64} (hh : ∀ c, zs_in h c = (decide (c < 42) && zl_p up a c)) : zs_w h := by
  intro c hc
  rw [hh]
  have : ¬ c < 42 := by omega
  simp [this]
