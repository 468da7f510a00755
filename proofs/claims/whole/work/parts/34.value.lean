/-! THE VALUE OF A REST OF A GAME: how large, and that it doesn't hang on the depth that is left -/
def zt_top (P : Nat → Prop) (f : Nat → Int) (b r : Int) : Prop := b ≤ r ∧ (∀ i, P i → f i ≤ r) ∧ (r = b ∨ ∃ i, P i ∧ f i = r)
theorem zt_le {P Q : Nat → Prop} {f g : Nat → Int} {b r s : Int} (h : zt_top P f b r) (k : zt_top Q g b s) (h1 : ∀ i, P i → ∃ j, Q j ∧ g j = f i) : r ≤ s := by
  rcases h.2.2 with e | ⟨i, hi, e⟩
  · rw [e]; exact k.1
  · obtain ⟨j, hj, e2⟩ := h1 i hi
    have := k.2.1 j hj
    omega
theorem zt_one {P Q : Nat → Prop} {f g : Nat → Int} {b r s : Int} (h : zt_top P f b r) (k : zt_top Q g b s) (h1 : ∀ i, P i → ∃ j, Q j ∧ g j = f i) (h2 : ∀ j, Q j → ∃ i, P i ∧ f i = g j) : r = s := by
  have a := zt_le h k h1
  have c := zt_le k h h2
  omega
theorem zt_nil {P : Nat → Prop} {f : Nat → Int} {b : Int} (h : ∀ i, ¬ P i) : zt_top P f b b := ⟨Int.le_refl _, fun i hi => absurd hi (h i), Or.inl rfl⟩
theorem zt_skip {P P' : Nat → Prop} {f : Nat → Int} {b r : Int} (h : zt_top P' f b r) (e : ∀ k, P k ↔ P' k) : zt_top P f b r :=
  ⟨h.1, fun i hi => h.2.1 i ((e i).mp hi), h.2.2.imp id (fun ⟨i, hi, q⟩ => ⟨i, (e i).mpr hi, q⟩)⟩
theorem zt_take {P P' : Nat → Prop} {f : Nat → Int} {b b' r : Int} (i0 : Nat) (h : zt_top P' f b' r) (h1 : b ≤ b') (h2 : f i0 ≤ b') (h3 : b' = b ∨ b' = f i0) (e : ∀ k, P k ↔ (k = i0 ∨ P' k)) : zt_top P f b r := by
  refine ⟨Int.le_trans h1 h.1, fun i hi => ?_, ?_⟩
  · rcases (e i).mp hi with q | q
    · subst q; exact Int.le_trans h2 h.1
    · exact h.2.1 i q
  · rcases h.2.2 with q | ⟨i, hi, q⟩
    · rcases h3 with u | u
      · exact Or.inl (q.trans u)
      · exact Or.inr ⟨i0, (e i0).mpr (Or.inl rfl), (q.trans u).symm⟩
    · exact Or.inr ⟨i, (e i).mpr (Or.inr hi), q⟩
theorem zt_qmax (vtr : Int32) (rec : Int64 → Int64 → Int32 → Int32 → Int32 → Int32) (x1 x2 : Int64) (x3 x4 x5 : Int32) : ∀ (n i : Nat) (b : Int32),
    zt_top (fun k => (i ≤ k ∧ k < i + n) ∧ ¬ j_X1_mayPlay vtr x1 (nI k) x3 = 0) (fun k => (q_by vtr rec (nI k) x1 x2 x3 x4 x5).toInt) b.toInt (q_max vtr rec x1 x2 x3 x4 x5 n i b).toInt
  | 0, i, b => zt_nil (fun k hk => by have := hk.1; omega)
  | n + 1, i, b => by
    have ih := zt_qmax vtr rec x1 x2 x3 x4 x5 n (i + 1) (if j_X1_mayPlay vtr x1 (nI i) x3 = 0 then b else (if b < q_by vtr rec (nI i) x1 x2 x3 x4 x5 then q_by vtr rec (nI i) x1 x2 x3 x4 x5 else b))
    show zt_top _ _ _ (q_max vtr rec x1 x2 x3 x4 x5 n (i + 1) _).toInt
    by_cases m : j_X1_mayPlay vtr x1 (nI i) x3 = 0
    · rw [if_pos m] at ih ⊢
      refine zt_skip ih (fun k => ⟨fun h => ⟨⟨?_, by have := h.1; omega⟩, h.2⟩, fun h => ⟨by have := h.1; omega, h.2⟩⟩)
      rcases Nat.lt_or_ge i k with q | q
      · exact q
      · have : k = i := by have := h.1; omega
        subst this
        exact absurd m h.2
    · rw [if_neg m] at ih ⊢
      by_cases c : b < q_by vtr rec (nI i) x1 x2 x3 x4 x5
      · rw [if_pos c] at ih ⊢
        have c' := Int32.lt_iff_toInt_lt.mp c
        refine zt_take i ih (Int.le_of_lt c') (Int.le_refl _) (Or.inr rfl) (fun k => ⟨fun h => ?_, fun h => ?_⟩)
        · rcases Nat.lt_or_ge i k with q | q
          · exact Or.inr ⟨⟨q, by have := h.1; omega⟩, h.2⟩
          · exact Or.inl (by have := h.1; omega)
        · rcases h with h | h
          · subst h; exact ⟨⟨Nat.le_refl _, by omega⟩, m⟩
          · exact ⟨by have := h.1; omega, h.2⟩
      · rw [if_neg c] at ih ⊢
        have c' : ¬ b.toInt < (q_by vtr rec (nI i) x1 x2 x3 x4 x5).toInt := fun e => c (Int32.lt_iff_toInt_lt.mpr e)
        refine zt_take i ih (Int.le_refl _) (by omega) (Or.inl rfl) (fun k => ⟨fun h => ?_, fun h => ?_⟩)
        · rcases Nat.lt_or_ge i k with q | q
          · exact Or.inr ⟨⟨q, by have := h.1; omega⟩, h.2⟩
          · exact Or.inl (by have := h.1; omega)
        · rcases h with h | h
          · subst h; exact ⟨⟨Nat.le_refl _, by omega⟩, m⟩
          · exact ⟨by have := h.1; omega, h.2⟩
/-- the sizes of the hands; lead -1: between two tricks -/
def zs_sz (d : Nat) (x1 x2 : Int64) (x3 : Int32) : Prop := zs_w x1 ∧ zs_w x2 ∧ zs_ct x1 + zs_ct x2 ≤ d ∧ ((x3 = (-1) ∧ zs_ct x1 = zs_ct x2) ∨ (∃ l, l < 42 ∧ x3 = nI l ∧ zs_ct x1 = zs_ct x2 + 1))
theorem zs_szL {d : Nat} {x1 x2 : Int64} (h : zs_sz d x1 x2 (-1)) : zs_ct x1 = zs_ct x2 := by
  rcases h.2.2.2 with k | ⟨l, hl, e, _⟩
  · exact k.2
  · exact absurd e.symm (zs_nm1 l hl)
theorem zs_szF {d : Nat} {x1 x2 : Int64} {x3 : Int32} (h : zs_sz d x1 x2 x3) (h3 : ¬ x3 = (-1)) : ∃ l, l < 42 ∧ x3 = nI l ∧ zs_ct x1 = zs_ct x2 + 1 := by
  rcases h.2.2.2 with k | k
  · exact absurd k.1 h3
  · exact k
theorem zs_szN {d : Nat} {x1 x2 : Int64} {x3 : Int32} {i : Nat} (h : zs_sz (d + 1) x1 x2 x3) (hi : i < 42) (hin : zs_in x1 i = true) :
    (x3 = (-1) → zs_sz d x2 (x1 &&& ((j_X2_bit (nI i)) ^^^ (-1))) (nI i)) ∧ (¬ x3 = (-1) → zs_sz d (x1 &&& ((j_X2_bit (nI i)) ^^^ (-1))) x2 (-1)) ∧ (¬ x3 = (-1) → zs_sz d x2 (x1 &&& ((j_X2_bit (nI i)) ^^^ (-1))) (-1)) := by
  obtain ⟨w1, w2, hs, hk⟩ := h
  have hc := zs_ct_drop hi hin
  have hw := zs_w_drop hi w1
  refine ⟨fun e => ⟨w2, hw, by omega, Or.inr ⟨i, hi, rfl, ?_⟩⟩, fun e => ⟨hw, w2, by omega, Or.inl ⟨rfl, ?_⟩⟩, fun e => ⟨w2, hw, by omega, Or.inl ⟨rfl, ?_⟩⟩⟩
  · subst e
    rcases hk with k | ⟨l, hl, e, _⟩
    · omega
    · exact absurd e.symm (zs_nm1 l hl)
  · rcases hk with k | ⟨l, hl, _, k⟩
    · exact absurd k.1 e
    · omega
  · rcases hk with k | ⟨l, hl, _, k⟩
    · exact absurd k.1 e
    · omega
theorem zs_mayIn {v x3 : Int32} {h : Int64} {c : Nat} (hc : c < 42) (k : ¬ j_X1_mayPlay v h (nI c) x3 = 0) : zs_in h c = true := by
  cases e : zs_in h c with
  | true => rfl
  | false =>
    refine absurd ?_ k
    unfold j_X1_mayPlay
    rw [if_pos ((zs_has (by omega) h).mpr e)]
theorem zs_mayE {d t : Nat} (ht : t < 4) {x1 x2 : Int64} {x3 : Int32} (h : zs_sz d x1 x2 x3) (h0 : ¬ x1 = 0) : ∃ c, c < 42 ∧ ¬ j_X1_mayPlay (nI t) x1 (nI c) x3 = 0 := by
  by_cases e : x3 = (-1)
  · subst e
    obtain ⟨c, hc, k⟩ := zs_leadE h.1 h0
    exact ⟨c, hc, (zs_mayL hc).mpr k⟩
  · obtain ⟨l, hl, e2, _⟩ := zs_szF h e
    subst e2
    obtain ⟨c, hc, k⟩ := zs_folE h.1 h0 t l
    exact ⟨c, hc, (zs_mayF hc hl ht).mpr k⟩
theorem zg_w0 : ∀ c, c < 42 → -10 ≤ (j_X2_worth (nI c) 0).toInt ∧ (j_X2_worth (nI c) 0).toInt ≤ 10 := by decide +kernel
theorem zg_w1 : ∀ c, c < 42 → -10 ≤ (j_X2_worth (nI c) 1).toInt ∧ (j_X2_worth (nI c) 1).toInt ≤ 10 := by decide +kernel
theorem zg_tw {l c : Nat} (hl : l < 42) (hc : c < 42) (a w : Int32) : -20 ≤ (j_X1_trickWorth (nI l) (nI c) a w).toInt ∧ (j_X1_trickWorth (nI l) (nI c) a w).toInt ≤ 20 := by
  have a0 := zg_w0 l hl
  have a1 := zg_w1 l hl
  have b0 := zg_w0 c hc
  have b1 := zg_w1 c hc
  unfold j_X1_trickWorth
  split
  · rw [fb_addI (by omega) (by omega)]; omega
  · rw [fb_addI (by omega) (by omega)]; omega
theorem zg_by {vtr : Int32} {rec : Int64 → Int64 → Int32 → Int32 → Int32 → Int32} {c : Nat} {x1 x2 : Int64} {x3 x4 x5 : Int32} {B : Int} (hB : 0 ≤ B ∧ B ≤ 1000000) (hc : c < 42) (h3 : x3 = (-1) ∨ ∃ l, l < 42 ∧ x3 = nI l)
    (r1 : x3 = (-1) → ∀ a b, -B ≤ (rec x2 (x1 &&& ((j_X2_bit (nI c)) ^^^ (-1))) (nI c) a b).toInt ∧ (rec x2 (x1 &&& ((j_X2_bit (nI c)) ^^^ (-1))) (nI c) a b).toInt ≤ B)
    (r2 : ¬ x3 = (-1) → ∀ a b, -B ≤ (rec x2 (x1 &&& ((j_X2_bit (nI c)) ^^^ (-1))) (-1) a b).toInt ∧ (rec x2 (x1 &&& ((j_X2_bit (nI c)) ^^^ (-1))) (-1) a b).toInt ≤ B)
    (r3 : ¬ x3 = (-1) → ∀ a b, -B ≤ (rec (x1 &&& ((j_X2_bit (nI c)) ^^^ (-1))) x2 (-1) a b).toInt ∧ (rec (x1 &&& ((j_X2_bit (nI c)) ^^^ (-1))) x2 (-1) a b).toInt ≤ B) :
    -(B + 20) ≤ (q_by vtr rec (nI c) x1 x2 x3 x4 x5).toInt ∧ (q_by vtr rec (nI c) x1 x2 x3 x4 x5).toInt ≤ B + 20 := by
  unfold q_by
  by_cases e : x3 = (-1)
  · rw [if_pos e]
    have := r1 e (1 - x4) x5
    rw [fb_negI (by omega)]
    omega
  · rw [if_neg e]
    rcases h3 with q | ⟨l, hl, q⟩
    · exact absurd q e
    · by_cases b : j_X2_beats (nI c) x3 vtr = 0
      · rw [if_pos b]
        have h := r2 e (1 - x4) 0
        have t := zg_tw hl hc (1 - x4) x5
        rw [← q] at t
        have n : (-(j_X1_trickWorth x3 (nI c) (1 - x4) x5)).toInt = -(j_X1_trickWorth x3 (nI c) (1 - x4) x5).toInt := fb_negI (by omega)
        rw [fb_subI (by omega) (by omega)]
        omega
      · rw [if_neg b]
        have h := r3 e x4 0
        have t := zg_tw hl hc x4 x5
        rw [← q] at t
        rw [fb_addI (by omega) (by omega)]
        omega
theorem zg_m1000 : (-1000 : Int32).toInt = -1000 := by decide
theorem zg_0 : (0 : Int32).toInt = 0 := by decide
theorem zg_bd {t : Nat} (ht : t < 4) : ∀ (d : Nat), d ≤ 40 → ∀ (x1 x2 : Int64) (x3 x4 x5 : Int32), zs_sz d x1 x2 x3 → -(20 * (d : Int)) ≤ (q_m (nI t) d x1 x2 x3 x4 x5).toInt ∧ (q_m (nI t) d x1 x2 x3 x4 x5).toInt ≤ 20 * (d : Int)
  | 0, _, x1, x2, x3, x4, x5, _ => by
    show _ ≤ (0 : Int32).toInt ∧ (0 : Int32).toInt ≤ _
    rw [zg_0]; omega
  | d + 1, hd, x1, x2, x3, x4, x5, h => by
    have ih := zg_bd ht d (by omega)
    show _ ≤ (if lg_cmp x1 0 = 0 then (0 : Int32) else q_max (nI t) (q_m (nI t) d) x1 x2 x3 x4 x5 42 0 (-1000)).toInt ∧ (if lg_cmp x1 0 = 0 then (0 : Int32) else q_max (nI t) (q_m (nI t) d) x1 x2 x3 x4 x5 42 0 (-1000)).toInt ≤ _
    by_cases z : lg_cmp x1 0 = 0
    · rw [if_pos z, zg_0]; omega
    · rw [if_neg z]
      have h0 : ¬ x1 = 0 := fun e => z ((lg_cmp_eq x1 0).mpr e)
      have tp := zt_qmax (nI t) (q_m (nI t) d) x1 x2 x3 x4 x5 42 0 (-1000)
      rw [zg_m1000] at tp
      have by_ : ∀ k, k < 42 → ¬ j_X1_mayPlay (nI t) x1 (nI k) x3 = 0 → -(20 * (d : Int) + 20) ≤ (q_by (nI t) (q_m (nI t) d) (nI k) x1 x2 x3 x4 x5).toInt ∧ (q_by (nI t) (q_m (nI t) d) (nI k) x1 x2 x3 x4 x5).toInt ≤ 20 * (d : Int) + 20 := by
        intro k hk m
        obtain ⟨n1, n2, n3⟩ := zs_szN h hk (zs_mayIn hk m)
        refine zg_by ⟨by omega, by omega⟩ hk (h.2.2.2.imp (fun q => q.1) (fun ⟨l, hl, q, _⟩ => ⟨l, hl, q⟩)) (fun e a b => ih _ _ _ _ _ (n1 e)) (fun e a b => ih _ _ _ _ _ (n3 e)) (fun e a b => ih _ _ _ _ _ (n2 e))
      obtain ⟨c, hc, m⟩ := zs_mayE ht h h0
      have lo : (q_by (nI t) (q_m (nI t) d) (nI c) x1 x2 x3 x4 x5).toInt ≤ (q_max (nI t) (q_m (nI t) d) x1 x2 x3 x4 x5 42 0 (-1000)).toInt := tp.2.1 c ⟨⟨Nat.zero_le _, by omega⟩, m⟩
      have lc := by_ c hc m
      refine ⟨by omega, ?_⟩
      rcases tp.2.2 with e | ⟨k, hk, e⟩
      · rw [e]; omega
      · have u := by_ k (by have := hk.1; omega) hk.2
        have e' : (q_by (nI t) (q_m (nI t) d) (nI k) x1 x2 x3 x4 x5).toInt = (q_max (nI t) (q_m (nI t) d) x1 x2 x3 x4 x5 42 0 (-1000)).toInt := e
        omega
theorem zg_cong {vtr : Int32} {r r' : Int64 → Int64 → Int32 → Int32 → Int32 → Int32} {x1 x2 : Int64} {x3 x4 x5 : Int32} : ∀ (n i : Nat) (b : Int32), i + n ≤ 42 → (∀ k, k < 42 → ¬ j_X1_mayPlay vtr x1 (nI k) x3 = 0 → q_by vtr r (nI k) x1 x2 x3 x4 x5 = q_by vtr r' (nI k) x1 x2 x3 x4 x5) → q_max vtr r x1 x2 x3 x4 x5 n i b = q_max vtr r' x1 x2 x3 x4 x5 n i b
  | 0, _, _, _, _ => rfl
  | n + 1, i, b, hi, h => by
    show q_max vtr r x1 x2 x3 x4 x5 n (i + 1) _ = q_max vtr r' x1 x2 x3 x4 x5 n (i + 1) _
    by_cases m : j_X1_mayPlay vtr x1 (nI i) x3 = 0
    · rw [if_pos m, if_pos m]
      exact zg_cong n (i + 1) b (by omega) h
    · rw [if_neg m, if_neg m, h i (by omega) m]
      exact zg_cong n (i + 1) _ (by omega) h
/-- the depth that is left is of no account -/
theorem zg_ind {vtr : Int32} : ∀ (d d' : Nat) (x1 x2 : Int64) (x3 x4 x5 : Int32), zs_sz d x1 x2 x3 → zs_sz d' x1 x2 x3 → q_m vtr d x1 x2 x3 x4 x5 = q_m vtr d' x1 x2 x3 x4 x5
  | 0, 0, _, _, _, _, _, _, _ => rfl
  | 0, d' + 1, x1, x2, x3, x4, x5, h, _ => by
    have z : zs_ct x1 = 0 := by have := h.2.2.1; omega
    have z' := (zs_ct_nil h.1).mp z
    show (0 : Int32) = if lg_cmp x1 0 = 0 then (0 : Int32) else _
    rw [if_pos ((lg_cmp_eq x1 0).mpr z')]
  | d + 1, 0, x1, x2, x3, x4, x5, _, h => by
    have z : zs_ct x1 = 0 := by have := h.2.2.1; omega
    have z' := (zs_ct_nil h.1).mp z
    show (if lg_cmp x1 0 = 0 then (0 : Int32) else _) = (0 : Int32)
    rw [if_pos ((lg_cmp_eq x1 0).mpr z')]
  | d + 1, d' + 1, x1, x2, x3, x4, x5, h, h' => by
    show (if lg_cmp x1 0 = 0 then (0 : Int32) else _) = (if lg_cmp x1 0 = 0 then (0 : Int32) else _)
    by_cases z : lg_cmp x1 0 = 0
    · rw [if_pos z, if_pos z]
    · rw [if_neg z, if_neg z]
      refine zg_cong 42 0 (-1000) (by omega) (fun k hk m => ?_)
      obtain ⟨n1, n2, n3⟩ := zs_szN h hk (zs_mayIn hk m)
      obtain ⟨m1, m2, m3⟩ := zs_szN h' hk (zs_mayIn hk m)
      unfold q_by
      by_cases e : x3 = (-1)
      · rw [if_pos e, if_pos e, zg_ind d d' _ _ _ _ _ (n1 e) (m1 e)]
      · rw [if_neg e, if_neg e, zg_ind d d' _ _ _ _ _ (n2 e) (m2 e), zg_ind d d' _ _ _ _ _ (n3 e) (m3 e)]
