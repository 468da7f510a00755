/-! A DEAL: the same row, the same hands -/
def zd_pm (z z' : Nat → Int32) (g inv : Nat → Nat) : Prop := (∀ k, k < 42 → z k = nI (g k) ∧ z' k = nI (g k) ∧ g k < 42 ∧ inv (g k) = k) ∧ (∀ c, c < 42 → inv c < 42 ∧ g (inv c) = c)
theorem zd_fill : ∀ (n i : Nat) (z : Nat → Int32), i + n ≤ 42 → (∀ k, k < i → z k = nI k) → ∀ k, k < i + n → j_X3_deal_7_urow n i z k = nI k
  | 0, i, z, _, h, k, hk => h k (by omega)
  | n + 1, i, z, hi, h, k, hk => by
    rw [j_X3_deal_7_urow, nI_clamp (show i < 2 ^ 31 by omega)]
    refine zd_fill n (i + 1) _ (by omega) (fun j hj => ?_) k (by omega)
    by_cases e : j = i
    · subst e; rw [pk_us]
    · rw [pk_un e]; exact h j (by omega)
theorem zd_two (vrow : Nat → Int32) (x0 : Int64) : ∀ (n i : Nat) (z : Nat → Int32), j_X2_shuffle_vrow_2 vrow x0 n i z = j_X2_shuffle_vrow_27 vrow x0 41 x0 (j_X3_deal_7_urow n i z)
  | 0, _, _ => rfl
  | n + 1, i, z => by
    rw [j_X2_shuffle_vrow_2, j_X3_deal_7_urow]
    exact zd_two vrow x0 n (i + 1) _
theorem zd_k1 {i : Nat} (hi : i + 1 ≤ 41) : (nI (i + 1)).toInt64 + 1 = (nI (i + 1) + 1).toInt64 := by
  rw [nI_l (by omega), lN_1, nI_1, nI_l (by omega)]
theorem zd_swap {z z' : Nat → Int32} {g inv : Nat → Nat} (h : zd_pm z z' g inv) {K O : Nat} (hK : K < 42) (hO : O < 42) : ∃ g' inv', zd_pm (upd (upd z K (z O)) O (z K)) (upd (upd z' K (z' O)) O (z' K)) g' inv' := by
  obtain ⟨h1, h2⟩ := h
  refine ⟨fun k => if k = O then g K else if k = K then g O else g k, fun c => if c = g K then O else if c = g O then K else inv c, fun k hk => ?_, fun c hc => ?_⟩
  · by_cases a : k = O
    · subst a
      refine ⟨?_, ?_, ?_, ?_⟩
      · dsimp only; rw [pk_us, if_pos rfl]; exact (h1 K hK).1
      · dsimp only; rw [pk_us, if_pos rfl]; exact (h1 K hK).2.1
      · show (if k = k then g K else _) < 42
        rw [if_pos rfl]; exact (h1 K hK).2.2.1
      · show (if (if k = k then g K else _) = g K then k else _) = k
        rw [if_pos rfl, if_pos rfl]
    · by_cases b : k = K
      · subst b
        refine ⟨?_, ?_, ?_, ?_⟩
        · dsimp only; rw [pk_un a, pk_us, if_neg a, if_pos rfl]; exact (h1 O hO).1
        · dsimp only; rw [pk_un a, pk_us, if_neg a, if_pos rfl]; exact (h1 O hO).2.1
        · show (if k = O then g k else if k = k then g O else g k) < 42
          rw [if_neg a, if_pos rfl]; exact (h1 O hO).2.2.1
        · have e : (if k = O then g k else if k = k then g O else g k) = g O := by rw [if_neg a, if_pos rfl]
          show (if (if k = O then g k else if k = k then g O else g k) = g k then O else if (if k = O then g k else if k = k then g O else g k) = g O then k else _) = k
          rw [e]
          have n : ¬ g O = g k := fun q => by
            have u := (h1 O hO).2.2.2
            rw [q, (h1 k hK).2.2.2] at u
            exact a u
          rw [if_neg n, if_pos rfl]
      · refine ⟨?_, ?_, ?_, ?_⟩
        · dsimp only; rw [pk_un a, pk_un b, if_neg a, if_neg b]; exact (h1 k hk).1
        · dsimp only; rw [pk_un a, pk_un b, if_neg a, if_neg b]; exact (h1 k hk).2.1
        · show (if k = O then g K else if k = K then g O else g k) < 42
          rw [if_neg a, if_neg b]; exact (h1 k hk).2.2.1
        · have e : (if k = O then g K else if k = K then g O else g k) = g k := by rw [if_neg a, if_neg b]
          show (if (if k = O then g K else if k = K then g O else g k) = g K then O else if (if k = O then g K else if k = K then g O else g k) = g O then K else inv (if k = O then g K else if k = K then g O else g k)) = k
          rw [e]
          have u := (h1 k hk).2.2.2
          have n1 : ¬ g k = g K := fun q => by
            rw [q, (h1 K hK).2.2.2] at u
            exact b u.symm
          have n2 : ¬ g k = g O := fun q => by
            rw [q, (h1 O hO).2.2.2] at u
            exact a u.symm
          rw [if_neg n1, if_neg n2]; exact u
  · by_cases a : c = g K
    · constructor
      · show (if c = g K then O else _) < 42
        rw [if_pos a]; exact hO
      · show (if (if c = g K then O else _) = O then g K else _) = c
        rw [if_pos a, if_pos rfl]; exact a.symm
    · by_cases b : c = g O
      · have e : (if c = g K then O else if c = g O then K else inv c) = K := by rw [if_neg a, if_pos b]
        constructor
        · show (if c = g K then O else if c = g O then K else inv c) < 42
          rw [e]; exact hK
        · show (if (if c = g K then O else if c = g O then K else inv c) = O then g K else if (if c = g K then O else if c = g O then K else inv c) = K then g O else g (if c = g K then O else if c = g O then K else inv c)) = c
          rw [e]
          by_cases q : K = O
          · rw [if_pos q]
            rw [q] at a
            exact absurd b a
          · rw [if_neg q, if_pos rfl]; exact b.symm
      · have e : (if c = g K then O else if c = g O then K else inv c) = inv c := by rw [if_neg a, if_neg b]
        obtain ⟨u, v⟩ := h2 c hc
        constructor
        · show (if c = g K then O else if c = g O then K else inv c) < 42
          rw [e]; exact u
        · show (if (if c = g K then O else if c = g O then K else inv c) = O then g K else if (if c = g K then O else if c = g O then K else inv c) = K then g O else g (if c = g K then O else if c = g O then K else inv c)) = c
          rw [e]
          have n1 : ¬ inv c = O := fun q => b (by rw [← q]; exact v.symm)
          have n2 : ¬ inv c = K := fun q => a (by rw [← q]; exact v.symm)
          rw [if_neg n1, if_neg n2]; exact v
theorem zd_ex (z : Nat → Int32) {k j : Nat} (hk : k < 42) (hj : j < 42) : j_X2_exchange_vrow z (nI k) (nI j) = upd (upd z k (z j)) j (z k) := by
  have n0 : ∀ q : Nat, q < 42 → ¬ nI q < (0 : Int32) := fun q hq => nI_nlt (a := q) (b := 0) (by omega) (by omega)
  have n1 : ∀ q : Nat, q < 42 → ¬ (42 : Int32) ≤ nI q := by decide +kernel
  unfold j_X2_exchange_vrow
  rw [if_neg (n0 k hk), if_neg (n1 k hk), if_neg (n0 j hj), if_neg (n1 j hj), nI_clamp (show k < 2 ^ 31 by omega), nI_clamp (show j < 2 ^ 31 by omega)]
theorem zd_shuf (vrow : Nat → Int32) (x0 : Int64) : ∀ (i : Nat) (y : Int64) (z z' : Nat → Int32) (g inv : Nat → Nat), i ≤ 41 → zd_pm z z' g inv → ∃ g' inv', zd_pm (j_X2_shuffle_vrow_27 vrow x0 i y z) (j_X3_deal_32_urow i y z') g' inv'
  | 0, y, z, z', g, inv, _, h => ⟨g, inv, h⟩
  | i + 1, y, z, z', g, inv, hi, h => by
    rw [j_X2_shuffle_vrow_27, j_X3_deal_32_urow, zd_k1 hi]
    obtain ⟨j, hj, e⟩ := vp_in_of (jx_other (a := (y * 6364136223846793005) + 1442695040888963407) hi) (by decide)
    rw [e, zd_ex z (show i + 1 < 42 by omega) hj, nI_clamp (show i + 1 < 2 ^ 31 by omega), nI_clamp (show j < 2 ^ 31 by omega)]
    obtain ⟨g', inv', h'⟩ := zd_swap h (show i + 1 < 42 by omega) hj
    exact zd_shuf vrow x0 i _ _ _ g' inv' (by omega) h'
theorem zd_all (vrow ur : Nat → Int32) (x0 : Int64) : ∃ g inv, zd_pm (j_X2_shuffle_vrow vrow x0) (j_X3_deal_urow ur x0) g inv := by
  have e : j_X2_shuffle_vrow vrow x0 = j_X2_shuffle_vrow_27 vrow x0 41 x0 (j_X3_deal_7_urow 42 0 vrow) := zd_two vrow x0 42 0 vrow
  rw [e]
  unfold j_X3_deal_urow
  refine zd_shuf vrow x0 41 x0 _ _ (fun k => k) (fun c => c) (Nat.le_refl _) ⟨fun k hk => ⟨zd_fill 42 0 vrow (by decide) (fun j hj => absurd hj (Nat.not_lt_zero j)) k (by omega), zd_fill 42 0 ur (by decide) (fun j hj => absurd hj (Nat.not_lt_zero j)) k (by omega), hk, rfl⟩, fun c hc => ⟨hc, rfl⟩⟩
/-! the hands that are dealt -/
def zd_hf (g : Nat → Nat) (s : Nat) : Nat → Int64
  | 0 => 0
  | m + 1 => zd_hf g s m ||| (j_X2_bit (nI (g (s + m))))
theorem zd_hin {g inv : Nat → Nat} {s : Nat} (hg : ∀ k, k < 42 → g k < 42 ∧ inv (g k) = k) : ∀ (m : Nat), s + m ≤ 42 → (∀ c, zs_in (zd_hf g s m) c = true ↔ ∃ k, k < m ∧ g (s + k) = c) ∧ zs_ct (zd_hf g s m) = m
  | 0, _ => ⟨fun c => by
      show zs_in 0 c = true ↔ _
      rw [zs_0]
      exact ⟨fun h => absurd h (by decide), fun ⟨k, hk, _⟩ => absurd hk (Nat.not_lt_zero k)⟩, by
      show zs_ct 0 = 0
      exact (zs_ct_nil (h := 0) (fun c _ => zs_0 c)).mpr rfl⟩
  | m + 1, hm => by
    obtain ⟨i1, i2⟩ := zd_hin (s := s) hg m (by omega)
    have gm := hg (s + m) (by omega)
    have nin : zs_in (zd_hf g s m) (g (s + m)) = false := by
      cases e : zs_in (zd_hf g s m) (g (s + m)) with
      | false => rfl
      | true =>
        obtain ⟨k, hk, q⟩ := (i1 _).mp e
        have u := (hg (s + k) (by omega)).2
        rw [q, gm.2] at u
        omega
    refine ⟨fun c => ?_, ?_⟩
    · show zs_in (zd_hf g s m ||| (j_X2_bit (nI (g (s + m))))) c = true ↔ _
      rw [zs_add (by have := gm.1; omega), Bool.or_eq_true, i1, decide_eq_true_eq]
      constructor
      · rintro (⟨k, hk, q⟩ | q)
        · exact ⟨k, by omega, q⟩
        · exact ⟨m, by omega, q.symm⟩
      · rintro ⟨k, hk, q⟩
        rcases Nat.lt_or_ge k m with w | w
        · exact Or.inl ⟨k, w, q⟩
        · have : k = m := by omega
          subst this
          exact Or.inr q.symm
    · show zs_ct (zd_hf g s m ||| (j_X2_bit (nI (g (s + m))))) = m + 1
      rw [zs_ct_add gm.1 nin, i2]
abbrev zd_cl (s i : Nat) : Nat := if i - s < 6 then i - s else 6
theorem zd_hfrom {r : Nat → Int32} {g : Nat → Nat} {s : Nat} (hs : s = 0 ∨ s = 6) (hr : ∀ k, k < 12 → r k = nI (g k)) : ∀ (n i : Nat), i + n = 42 → j_X2_handFrom_5 r (nI s) n i (zd_hf g s (zd_cl s i)) = zd_hf g s 6
  | 0, i, hi => by
    show zd_hf g s (zd_cl s i) = zd_hf g s 6
    have : zd_cl s i = 6 := by unfold zd_cl; rw [if_neg (by omega)]
    rw [this]
  | n + 1, i, hi => by
    have e6 : nI s + 6 = nI (s + 6) := nI_add s 6
    rw [j_X2_handFrom_5, e6, nI_clamp (show i < 2 ^ 31 by omega)]
    have ih := zd_hfrom hs hr n (i + 1) (by omega)
    by_cases a : i < s
    · have a' : nI i < nI s := nI_lt a (by omega)
      rw [if_pos a']
      have : zd_cl s (i + 1) = zd_cl s i := by unfold zd_cl; rw [if_pos (by omega), if_pos (by omega)]; omega
      rw [this] at ih
      exact ih
    · have a' : ¬ nI i < nI s := nI_nlt (by omega) (by omega)
      rw [if_neg a']
      by_cases b : s + 6 ≤ i
      · have b' : nI (s + 6) ≤ nI i := nI_le b (by omega)
        rw [if_pos b']
        have : zd_cl s (i + 1) = zd_cl s i := by unfold zd_cl; rw [if_neg (by omega), if_neg (by omega)]
        rw [this] at ih
        exact ih
      · have b' : ¬ nI (s + 6) ≤ nI i := nI_ge (by omega) (by omega)
        rw [if_neg b', hr i (by omega)]
        have e1 : zd_cl s i = i - s := by unfold zd_cl; rw [if_pos (by omega)]
        have e2 : zd_cl s (i + 1) = (i - s) + 1 := by
          unfold zd_cl
          by_cases q : i + 1 - s < 6
          · rw [if_pos q]; omega
          · rw [if_neg q]; omega
        rw [e2] at ih
        rw [e1]
        have e3 : zd_hf g s ((i - s) + 1) = zd_hf g s (i - s) ||| (j_X2_bit (nI (g i))) := by
          show zd_hf g s (i - s) ||| (j_X2_bit (nI (g (s + (i - s))))) = _
          rw [show s + (i - s) = i by omega]
        rw [e3] at ih
        exact ih
abbrev zd_ph (i : Nat) : Nat := if i < 6 then 0 else if i < 12 then 1 else 2
theorem zd_phq : ∀ i, i < 42 → ((if 6 ≤ nI i then ((if 12 ≤ nI i then 2 else 1) : Int32) else 0) : Int32) = nI (zd_ph i) := by decide +kernel
theorem zd_place {r : Nat → Int32} {g inv : Nat → Nat} (hr : ∀ k, k < 42 → r k = nI (g k) ∧ g k < 42 ∧ inv (g k) = k) : ∀ (n i : Nat) (z : Nat → Int32), i + n ≤ 42 → (∀ k, k < i → z (g k) = nI (zd_ph k)) → ∀ k, k < i + n → j_X3_deal_102_uplace r n i z (g k) = nI (zd_ph k)
  | 0, i, z, _, h, k, hk => h k (by omega)
  | n + 1, i, z, hi, h, k, hk => by
    have ri := hr i (by omega)
    rw [j_X3_deal_102_uplace, nI_clamp (show i < 2 ^ 31 by omega), ri.1, nI_clamp (show g i < 2 ^ 31 by have := ri.2.1; omega), zd_phq i (by omega)]
    refine zd_place hr n (i + 1) _ (by omega) (fun j hj => ?_) k (by omega)
    by_cases e : j = i
    · subst e; rw [pk_us]
    · have ne : ¬ g j = g i := fun q => by
        have u := (hr j (by omega)).2.2
        rw [q, ri.2.2] at u
        exact e u.symm
      rw [pk_un ne]; exact h j (by omega)
theorem zd_last (r : Nat → Int32) : (∀ j, j < 12 → j_X2_putTurnedUpLast_vrow r j = r j) ∧ (∀ j, 12 ≤ j → j < 42 → j_X2_putTurnedUpLast_vrow r j = r (zr_s j)) := by
  have e13 : (13 : Int32).toNatClampNeg = 13 := by decide
  have e12 : (12 : Int32).toNatClampNeg = 12 := by decide
  have e29 : (29 : Int32).toNatClampNeg = 29 := by decide
  have e41 : (41 : Int32).toNatClampNeg = 41 := by decide
  unfold j_X2_putTurnedUpLast_vrow
  rw [e13, e12, e29, e41]
  constructor
  · intro j hj
    rw [pk_un (by omega), pk_cpy_out (Or.inl hj)]
  · intro j h1 h2
    unfold zr_s
    by_cases q : j = 41
    · subst q; rw [pk_us, if_neg (by decide)]
    · rw [pk_un q, pk_cpy_in h1 (by omega), if_pos (by omega)]
      congr 1
      omega
section ZP
variable {vrow : Nat → Int32} {vdrawn vtr vled vmov vw1 vw2 : Int32} {vh1 vt1 : Int64} {vp1 vk1 vg1 : Int32} {vh2 vt2 : Int64} {vp2 vk2 vg2 : Int32} {up ur us ut ug uw uh : Nat → Int32} {udrawn udealt uon uturn uled utr : Int32}
theorem zp_deal (h : zr_R vrow vdrawn vtr vled vmov vw1 vw2 vh1 vt1 vp1 vk1 vg1 vh2 vt2 vp2 vk2 vg2 up ur us ut ug uw uh udrawn udealt uon uturn uled utr) (x0 : Int64) :
    zr_R (j_X2_deal_vrow vrow x0) (j_X2_deal_vdrawn) (j_X2_deal_vtr vrow x0) (j_X2_deal_vled) (j_X2_deal_vmov) vw1 vw2 (j_X2_deal_vh1 vrow x0) (j_X2_deal_vt1) (j_X2_deal_vp1) (j_X2_deal_vk1) (j_X2_deal_vg1) (j_X2_deal_vh2 vrow x0) (j_X2_deal_vt2) (j_X2_deal_vp2) (j_X2_deal_vk2) (j_X2_deal_vg2)
      (j_X3_deal_uplace up ur x0) (j_X3_deal_urow ur x0) (j_X3_deal_upts us) (j_X3_deal_utks ut) (j_X3_deal_uglv ug) uw uh j_X3_deal_udrawn j_X3_deal_udealt j_X3_deal_uon j_X3_deal_uturn j_X3_deal_uled (j_X3_deal_utr ur x0) ∧
    j_X2_deal vrow x0 = j_X3_deal ur x0 := by
  obtain ⟨⟨w1, w2, _⟩, _, hh, _⟩ := h
  obtain ⟨g, inv, hA, hB⟩ := zd_all vrow ur x0
  have hg : ∀ k, k < 42 → g k < 42 ∧ inv (g k) = k := fun k hk => (hA k hk).2.2
  have hrU : ∀ k, k < 42 → j_X3_deal_urow ur x0 k = nI (g k) ∧ g k < 42 ∧ inv (g k) = k := fun k hk => ⟨(hA k hk).2.1, (hA k hk).2.2.1, (hA k hk).2.2.2⟩
  obtain ⟨l1, l2⟩ := zd_last (j_X2_shuffle_vrow vrow x0)
  have e12 : (12 : Int32).toNatClampNeg = 12 := by decide
  have g12 := hg 12 (by decide)
  -- trumps
  obtain ⟨t, ht, tv, tu⟩ : ∃ t, t < 4 ∧ j_X2_deal_vtr vrow x0 = nI t ∧ j_X3_deal_utr ur x0 = nI t := by
    have eU : j_X3_deal_utr ur x0 = (if j_X3_isMildew (j_X3_deal_urow ur x0 12) = 0 then j_X3_provenance (j_X3_deal_urow ur x0 12) else 0) := rfl
    unfold j_X2_deal_vtr
    rw [eU, e12, (hA 12 (by decide)).1, (hA 12 (by decide)).2.1]
    by_cases q : g 12 < 40
    · refine ⟨g 12 / 10, by omega, ?_, ?_⟩
      · rw [if_pos ((zs_mil _ g12.1).mpr q), zs_div _ g12.1]
      · rw [if_pos ((zm_mil3 _ g12.1).mpr q), zm_prov _ g12.1]
    · refine ⟨0, by decide, ?_, ?_⟩
      · rw [if_neg (fun e => q ((zs_mil _ g12.1).mp e))]; rfl
      · rw [if_neg (fun e => q ((zm_mil3 _ g12.1).mp e))]; rfl
  have pl := zd_place (r := j_X3_deal_urow ur x0) hrU 42 0 up (by decide) (fun k hk => absurd hk (Nat.not_lt_zero k))
  have plc : ∀ k, k < 42 → j_X3_deal_uplace up ur x0 (g k) = nI (zd_ph k) := fun k hk => pl k (by omega)
  have phlt : ∀ k, zd_ph k < 3 := fun k => by unfold zd_ph; split <;> (try split) <;> omega
  have plI : ∀ c, c < 42 → j_X3_deal_uplace up ur x0 c = nI (zd_ph (inv c)) := fun c hc => by
    have b := hB c hc
    have := plc (inv c) b.1
    rw [b.2] at this
    exact this
  -- hands
  have hand : ∀ s a, (s = 0 ∧ a = 0) ∨ (s = 6 ∧ a = 1) → j_X2_handFrom (j_X2_putTurnedUpLast_vrow (j_X2_shuffle_vrow vrow x0)) (nI s) = zd_hf g s 6 ∧ zr_hand (j_X3_deal_uplace up ur x0) a (zd_hf g s 6) ∧ zs_ct (zd_hf g s 6) = 6 := by
    intro s a hsa
    have hs : s = 0 ∨ s = 6 := by omega
    obtain ⟨i1, i2⟩ := zd_hin (s := s) hg 6 (by omega)
    refine ⟨?_, fun c => ?_, i2⟩
    · have := zd_hfrom (r := j_X2_putTurnedUpLast_vrow (j_X2_shuffle_vrow vrow x0)) (g := g) hs (fun k hk => by rw [l1 k hk]; exact (hA k (by omega)).1) 42 0 (by decide)
      have z : zd_cl s 0 = 0 := by unfold zd_cl; rw [if_pos (by omega)]; omega
      rw [z] at this
      exact this
    · rw [Bool.eq_iff_iff, i1, Bool.and_eq_true, decide_eq_true_eq]
      constructor
      · rintro ⟨k, hk, q⟩
        have gk := hg (s + k) (by omega)
        refine ⟨by rw [← q]; exact gk.1, ?_⟩
        have u := plc (s + k) (by omega)
        rw [q] at u
        have : zd_ph (s + k) = a := by
          unfold zd_ph
          rcases hsa with ⟨x1, x2⟩ | ⟨x1, x2⟩
          · rw [if_pos (by omega)]; exact x2.symm
          · rw [if_neg (by omega), if_pos (by omega)]; exact x2.symm
        simp [zl_p, u, this]
      · rintro ⟨hc, p⟩
        have b := hB c hc
        have u : j_X3_deal_uplace up ur x0 c = nI a := by simpa [zl_p] using p
        rw [plI c hc] at u
        have e := (zn_nI (v := a) (w := zd_ph (inv c)) (by omega) (by have := phlt (inv c); omega)).mp u
        have inr : s ≤ inv c ∧ inv c < s + 6 := by
          unfold zd_ph at e
          split at e
          · omega
          · split at e <;> omega
        exact ⟨inv c - s, by omega, by rw [show s + (inv c - s) = inv c by omega]; exact b.2⟩
  obtain ⟨a1, a2, a3⟩ := hand 0 0 (Or.inl ⟨rfl, rfl⟩)
  obtain ⟨b1, b2, b3⟩ := hand 6 1 (Or.inr ⟨rfl, rfl⟩)
  have vh1e : j_X2_deal_vh1 vrow x0 = zd_hf g 0 6 := by
    unfold j_X2_deal_vh1 j_X0_begin_vh
    rw [show (0 : Int32) = nI 0 from rfl]
    exact a1
  have vh2e : j_X2_deal_vh2 vrow x0 = zd_hf g 6 6 := by
    unfold j_X2_deal_vh2 j_X0_begin_vh
    rw [show (6 : Int32) = nI 6 from rfl]
    exact b1
  have n0 : zl_nn (j_X3_deal_uplace up ur x0) 0 = 6 := by rw [← zl_hct _ a2]; exact a3
  have n1 : zl_nn (j_X3_deal_uplace up ur x0) 1 = 6 := by rw [← zl_hct _ b2]; exact b3
  have nil : ∀ v, 3 ≤ v → v < 6 → zr_hand (j_X3_deal_uplace up ur x0) v 0 := by
    intro v h1 h2 c
    rw [zs_0]
    by_cases hc : c < 42
    · have : ¬ j_X3_deal_uplace up ur x0 c = nI v := by
        rw [plI c hc]
        intro e
        have := (zn_nI (v := v) (w := zd_ph (inv c)) h2 (by have := phlt (inv c); omega)).mp e
        have := phlt (inv c)
        omega
      simp [zl_p, this]
    · simp [hc]
  constructor
  · rw [tv, tu, vh1e, vh2e]
    refine ⟨⟨w1, w2, ?_, ?_, ?_, ?_, ?_, ?_⟩, ⟨rfl, rfl⟩, hh, Or.inl rfl, Or.inr ⟨rfl, rfl⟩, fun j hj => by rw [(hrU j hj).1]; exact vp_in_nI (hrU j hj).2.1 (by decide), Or.inr ⟨rfl, t, 0, 1, 0, g, inv, ⟨ht, rfl⟩, ⟨rfl, rfl⟩, ⟨by decide, rfl, rfl⟩, ⟨a2, b2, nil 4 (by decide) (by decide), nil 5 (by decide) (by decide)⟩, fun c hc => ⟨zd_ph (inv c), by have := phlt (inv c); omega, plI c hc⟩, Or.inl ⟨rfl, fun c hc e => ?_⟩, ⟨hrU, fun j h1 h2 => ?_⟩, fun j h1 h2 => ?_, ⟨by omega, by omega⟩, fun _ => ⟨Or.inl ⟨rfl, by omega⟩, by omega, fun _ => n0⟩⟩⟩
    · unfold j_X3_deal_upts; rw [zr_c0, zr_c1, pk_un (by decide), pk_us]; rfl
    · unfold j_X3_deal_upts; rw [zr_c0, zr_c1, pk_us]; rfl
    · unfold j_X3_deal_utks; rw [zr_c0, zr_c1, pk_un (by decide), pk_us]; rfl
    · unfold j_X3_deal_utks; rw [zr_c0, zr_c1, pk_us]; rfl
    · unfold j_X3_deal_uglv; rw [zr_c0, zr_c1, pk_un (by decide), pk_us]; rfl
    · unfold j_X3_deal_uglv; rw [zr_c0, zr_c1, pk_us]; rfl
    · rw [plI c hc] at e
      have := (zn_nI (v := 3) (w := zd_ph (inv c)) (by decide) (by have := phlt (inv c); omega)).mp e
      have := phlt (inv c)
      omega
    · show j_X2_putTurnedUpLast_vrow (j_X2_shuffle_vrow vrow x0) j = _
      rw [l2 j h1 h2, (hA _ (zr_s42 h2)).1, (hA _ (zr_s42 h2)).2.1]
    · rw [plc _ (zr_s42 h2)]
      have : zd_ph (zr_s j) = 2 := by
        by_cases q : j < 41
        · rw [show zr_s j = j + 1 from if_pos q]
          unfold zd_ph
          rw [if_neg (by omega), if_neg (by omega)]
        · rw [show zr_s j = 12 from if_neg q]; rfl
      rw [this]
  · have x1 : j_X2_deal vrow x0 = j_X2_deal_vtr vrow x0 := rfl
    have x2 : j_X3_deal ur x0 = j_X3_deal_utr ur x0 := rfl
    rw [x1, x2, tv, tu]
end ZP
/-! best's own cells -/
theorem zb_hh1 (up : Nat → Int32) (a : Int32) : ∀ (n i : Nat) (y : Int32) (zh : Nat → Int32), i + n ≤ 42 → (∀ j, j < 12 → vp_in (zh j) 42) → ∀ j, j < 12 → vp_in (j_X3_laysHands_11_uheld up a n i y zh j) 42
  | 0, i, y, zh, _, h, j, hj => h j hj
  | n + 1, i, y, zh, hi, h, j, hj => by
    rw [j_X3_laysHands_11_uheld]
    by_cases q : up (nI i).toNatClampNeg = a
    · rw [if_pos q]
      refine zb_hh1 up a n (i + 1) _ _ (by omega) (fun k hk => ?_) j hj
      unfold upd
      split
      · exact vp_in_nI (by omega) (by decide)
      · exact h k hk
    · rw [if_neg q]
      exact zb_hh1 up a n (i + 1) y zh (by omega) h j hj
theorem zb_hh {up uh : Nat → Int32} {udrawn udealt uon : Int32} (h : ∀ j, j < 12 → vp_in (uh j) 42) : ∀ j, j < 12 → vp_in (j_X3_bestPlace_uheld up uh udrawn udealt uon j) 42 := by
  have k := zb_hh1 up 1 42 0 0 (j_X3_laysHands_11_uheld up 0 42 0 0 uh) (by decide) (zb_hh1 up 0 42 0 0 uh (by decide) h)
  unfold j_X3_bestPlace_uheld
  by_cases a : uon = 0
  · rw [if_pos a]; exact h
  · rw [if_neg a]
    by_cases b : j_X3_inPile udrawn udealt = 0
    · rw [if_pos b]; exact k
    · rw [if_neg b]; exact h
