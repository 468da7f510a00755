/-! P24: WHAT ITS LAW SAYS OF A GAME, over the places of the cards -/
theorem pq_part {up : Nat → Int32} : ∀ {n : Nat}, (∀ c, c < n → ∃ v, v < 6 ∧ up c = nI v) → fb_ct (zl_p up 0) n + fb_ct (zl_p up 1) n + fb_ct (zl_p up 2) n + fb_ct (zl_p up 3) n + fb_ct (zl_p up 4) n + fb_ct (zl_p up 5) n = n
  | 0, _ => rfl
  | n + 1, h => by
    have ih := pq_part (n := n) (fun c hc => h c (by omega))
    obtain ⟨v, hv, u⟩ := h n (by omega)
    have k : ∀ w, w < 6 → zl_p up w n = decide (v = w) := fun w hw => by
      show decide (up n = nI w) = _
      rw [u]
      exact decide_eq_decide.mpr (zn_nI hw hv)
    simp only [fb_ct_succ, k 0 (by decide), k 1 (by decide), k 2 (by decide), k 3 (by decide), k 4 (by decide), k 5 (by decide)]
    have hv6 : v = 0 ∨ v = 1 ∨ v = 2 ∨ v = 3 ∨ v = 4 ∨ v = 5 := by omega
    rcases hv6 with e | e | e | e | e | e
    · subst e; simp; omega
    · subst e; simp; omega
    · subst e; simp; omega
    · subst e; simp; omega
    · subst e; simp; omega
    · subst e; simp; omega
abbrev pq_T (x : Int32) : Prop := x = nI 4 ∨ x = nI 5
def pq_val (c : Nat) : Int32 := (if nI c < 40 then 10 - (nI c - nI c / 10 * 10) else (-5))
def pq_sum (up : Nat → Int32) : Nat → Int32
  | 0 => 0
  | n + 1 => pq_sum up n + (if pq_T (up n) then pq_val n else 0)
def pq_tot : Nat → Int32
  | 0 => 0
  | n + 1 => pq_tot n + pq_val n
theorem pq_210 : pq_tot 42 = 210 := by decide +kernel
theorem pq_sum_cong {up u2 : Nat → Int32} : ∀ {n : Nat}, (∀ k, k < n → (pq_T (up k) ↔ pq_T (u2 k))) → pq_sum up n = pq_sum u2 n
  | 0, _ => rfl
  | n + 1, h => by
    rw [pq_sum, pq_sum, pq_sum_cong (n := n) (fun k hk => h k (by omega))]
    by_cases q : pq_T (up n)
    · rw [if_pos q, if_pos ((h n (by omega)).mp q)]
    · rw [if_neg q, if_neg (fun e => q ((h n (by omega)).mpr e))]
theorem pq_sum_put {up u2 : Nat → Int32} {c : Nat} (h : ∀ k, ¬ k = c → (pq_T (up k) ↔ pq_T (u2 k))) (hn : ¬ pq_T (up c)) (hy : pq_T (u2 c)) : ∀ {n : Nat}, c < n → pq_sum u2 n = pq_sum up n + pq_val c
  | 0, hc => absurd hc (Nat.not_lt_zero _)
  | n + 1, hc => by
    rw [pq_sum, pq_sum]
    by_cases e : n = c
    · subst e
      rw [if_pos hy, if_neg hn, Int32.add_zero, pq_sum_cong (fun k hk => (h k (by omega)).symm)]
    · rw [pq_sum_put h hn hy (n := n) (by omega)]
      have t : (if pq_T (u2 n) then pq_val n else 0) = (if pq_T (up n) then pq_val n else 0) := by
        by_cases q : pq_T (up n)
        · rw [if_pos q, if_pos ((h n e).mp q)]
        · rw [if_neg q, if_neg (fun z => q ((h n e).mpr z))]
      rw [t, Int32.add_assoc, Int32.add_comm (pq_val c), ← Int32.add_assoc]
theorem pq_all {up : Nat → Int32} : ∀ {n : Nat}, (∀ k, k < n → pq_T (up k)) → pq_sum up n = pq_tot n
  | 0, _ => rfl
  | n + 1, h => by
    rw [pq_sum, pq_tot, pq_all (n := n) (fun k hk => h k (by omega)), if_pos (h n (by omega))]
theorem pq_Tn {v : Nat} (hv : v < 6) : pq_T (nI v) ↔ 4 ≤ v := by
  have : ∀ v, v < 6 → (pq_T (nI v) ↔ 4 ≤ v) := by decide +kernel
  exact this v hv
/-- what holds of a game besides the relation: the pile, the tricks, the points with what gloves spared, the games won -/
def pq_J (up us ut uw : Nat → Int32) (udrawn uon sp f s : Int32) : Prop :=
  ∃ E k0 k1 : Nat, (E ≤ 15 ∧ udrawn = nI (2 * E)) ∧ (ut 0 = nI k0 ∧ ut 1 = nI k1 ∧ zl_nn up 4 + zl_nn up 5 = 2 * (k0 + k1)) ∧ zl_nn up 2 + 2 * E = 30 ∧ us 0 + us 1 = pq_sum up 42 + 5 * sp ∧ (uon = 0 → zl_nn up 0 = 0 ∧ zl_nn up 1 = 0 ∧ E = 15) ∧
    ((uon = 1 ∧ uw 0 = f ∧ uw 1 = s) ∨ (uon = 0 ∧ uw 0 = f + (if us 0 ≤ us 1 then 0 else 1) ∧ uw 1 = s + (if us 1 ≤ us 0 then 0 else 1)))
theorem pq_upd {up : Nat → Int32} {c k : Nat} {x : Int32} (h : ¬ k = c) : pq_T (up k) ↔ pq_T (upd up c x k) := by rw [pk_un h]
theorem pq_lead {up us ut uw : Nat → Int32} {udrawn sp f s : Int32} {a c : Nat} (ha : a < 2) (hc : c < 42) (u : up c = nI a) (h : pq_J up us ut uw udrawn 1 sp f s) : pq_J (upd up c (nI 3)) us ut uw udrawn 1 sp f s := by
  obtain ⟨E, k0, k1, h1, ⟨h2, h3, h4⟩, h5, h6, h7, h8⟩ := h
  have m : ∀ v, v < 6 → 2 ≤ v → ¬ v = 3 → zl_nn (upd up c (nI 3)) v = zl_nn up v := fun v hv hv2 hv3 => zn_keep (y := a) hv (by decide) (by omega) hc u (fun e => hv3 e.symm) (by omega)
  refine ⟨E, k0, k1, h1, ⟨h2, h3, ?_⟩, ?_, ?_, fun e => absurd e (by decide), h8⟩
  · rw [m 4 (by decide) (by decide) (by decide), m 5 (by decide) (by decide) (by decide)]; exact h4
  · rw [m 2 (by decide) (by decide) (by decide)]; exact h5
  · have q : pq_sum up 42 = pq_sum (upd up c (nI 3)) 42 := pq_sum_cong (fun k _ => by
      by_cases e : k = c
      · subst e
        rw [u, pk_us, pq_Tn (by omega), pq_Tn (by decide)]
        omega
      · exact pq_upd e)
    rw [h6, q]
theorem pq_draw {vrow ur u2 : Nat → Int32} {τ σ E : Nat} {g inv : Nat → Nat} (hE : E ≤ 15) (hr : zr_row vrow ur g inv) (hp : ∀ j, 12 + 2 * E ≤ j → j < 42 → u2 (g (zr_s j)) = nI 2) :
    ∃ (U : Nat → Int32) (E' : Nat), j_X3_draws_uplace (j_X3_draws_uplace u2 ur (nI (2 * E)) 1 (nI τ)) ur (j_X3_draws_udrawn (nI (2 * E)) 1) 1 (nI σ) = U ∧ j_X3_draws_udrawn (j_X3_draws_udrawn (nI (2 * E)) 1) 1 = nI (2 * E') ∧ E' ≤ 15 ∧
      ((E = 15 ∧ E' = 15 ∧ U = u2) ∨ (E < 15 ∧ E' = E + 1 ∧ ∃ x1 x2, x1 < 42 ∧ x2 < 42 ∧ ¬ x2 = x1 ∧ u2 x1 = nI 2 ∧ u2 x2 = nI 2 ∧ U = upd (upd u2 x1 (nI τ)) x2 (nI σ))) := by
  by_cases e15 : E = 15
  · subst e15
    have z1 := zd_up0 (up := u2) (ur := ur) (nI τ)
    have z2 := zd_up0 (up := u2) (ur := ur) (nI σ)
    refine ⟨u2, 15, ?_, ?_, Nat.le_refl _, Or.inl ⟨rfl, rfl, rfl⟩⟩
    · show j_X3_draws_uplace (j_X3_draws_uplace u2 ur (nI 30) 1 (nI τ)) ur (j_X3_draws_udrawn (nI 30) 1) 1 (nI σ) = u2
      rw [z1.1, z1.2, z2.1]
    · show j_X3_draws_udrawn (j_X3_draws_udrawn (nI 30) 1) 1 = nI 30
      rw [z1.2, z1.2]
  · have hE14 : E < 15 := by omega
    have i1 : 12 + 2 * E < 42 := by omega
    have i2 : 12 + 2 * E + 1 < 42 := by omega
    have A1 := fun (u : Nat → Int32) (x : Int32) => zd_up (up := u) (D := 2 * E) (by omega) hr x
    have A2' : ∀ (u : Nat → Int32) (x : Int32), j_X3_draws_uplace u ur (nI (2 * E + 1)) 1 x = upd u (g (zr_s (12 + 2 * E + 1))) x ∧ j_X3_draws_udrawn (nI (2 * E + 1)) 1 = nI (2 * (E + 1)) := fun u x => zd_up (up := u) (D := 2 * E + 1) (by omega) hr x
    refine ⟨_, E + 1, rfl, ?_, by omega, Or.inr ⟨hE14, rfl, g (zr_s (12 + 2 * E)), g (zr_s (12 + 2 * E + 1)), (hr.1 _ (zr_s42 i1)).2.1, (hr.1 _ (zr_s42 i2)).2.1, zr_gne hr (by omega) i2 (by omega) i1 (by omega), hp _ (Nat.le_refl _) i1, hp _ (by omega) i2, ?_⟩⟩
    · rw [(A1 u2 (nI 0)).2, (A2' u2 (nI 0)).2]
    · rw [(A1 u2 (nI τ)).1, (A1 u2 (nI τ)).2, (A2' _ (nI σ)).1]
/-! the points of a trick -/
abbrev pq_m (c : Nat) : Int32 := if nI c ≤ 39 then 0 else 1
theorem pq_worth1 : ∀ c, c < 42 → j_X3_worthTo (nI c) 1 = pq_val c + 5 * pq_m c := by decide +kernel
theorem pq_worth0 : ∀ c, c < 42 → j_X3_worthTo (nI c) 0 = pq_val c := by decide +kernel
theorem pq_5 (x y : Int32) : 5 * (x + y) = 5 * x + 5 * y := Int32.mul_add
/-- what the taker gets: G is whether gloves are on -/
theorem pq_gain {c l : Nat} (hc : c < 42) (hl : l < 42) (G P : Int32) : P + (j_X3_worthTo (nI c) ((if G = 1 then 1 else 0) : Int32) + j_X3_worthTo (nI l) ((if G = 1 then 1 else 0) : Int32)) = ((P + pq_val c) + pq_val l) + (if G = 1 then 5 * (pq_m c + pq_m l) else 0) := by
  by_cases g : G = 1
  · rw [if_pos g, if_pos g, pq_worth1 c hc, pq_worth1 l hl, pq_5]
    generalize pq_val c = x; generalize pq_val l = y; generalize 5 * pq_m c = z; generalize 5 * pq_m l = t
    ac_rfl
  · rw [if_neg g, if_neg g, pq_worth0 c hc, pq_worth0 l hl, Int32.add_zero]
    ac_rfl
theorem pq_take {up : Nat → Int32} {a l c τ : Nat} (ha : a < 2) (hτ : τ < 2) (hc : c < 42) (hl : l < 42) (huc : up c = nI a) (hul : up l = nI 3) :
    zl_nn (upd (upd up c (nI (4 + τ))) l (nI (4 + τ))) 4 + zl_nn (upd (upd up c (nI (4 + τ))) l (nI (4 + τ))) 5 = zl_nn up 4 + zl_nn up 5 + 2 ∧ zl_nn (upd (upd up c (nI (4 + τ))) l (nI (4 + τ))) 2 = zl_nn up 2 ∧
      pq_sum (upd (upd up c (nI (4 + τ))) l (nI (4 + τ))) 42 = (pq_sum up 42 + pq_val c) + pq_val l ∧ (upd (upd up c (nI (4 + τ))) l (nI (4 + τ))) c = nI (4 + τ) ∧ (upd (upd up c (nI (4 + τ))) l (nI (4 + τ))) l = nI (4 + τ) := by
  have hcl : ¬ l = c := by
    intro e
    rw [e, huc] at hul
    have := (zn_nI (v := 3) (w := a) (by decide) (by omega)).mp hul
    omega
  have u1l : (upd up c (nI (4 + τ))) l = nI 3 := by rw [pk_un hcl]; exact hul
  have k2 : zl_nn (upd (upd up c (nI (4 + τ))) l (nI (4 + τ))) 2 = zl_nn (upd up c (nI (4 + τ))) 2 := zn_keep (y := 3) (by decide) (by omega) (by decide) hl u1l (by omega) (by decide)
  have k2' : zl_nn (upd up c (nI (4 + τ))) 2 = zl_nn up 2 := zn_keep (y := a) (by decide) (by omega) (by omega) hc huc (by omega) (by omega)
  have s1 : pq_sum (upd up c (nI (4 + τ))) 42 = pq_sum up 42 + pq_val c := pq_sum_put (fun k hk => pq_upd hk) (by rw [huc, pq_Tn (by omega)]; omega) (by rw [pk_us, pq_Tn (by omega)]; omega) hc
  have s2 : pq_sum (upd (upd up c (nI (4 + τ))) l (nI (4 + τ))) 42 = pq_sum (upd up c (nI (4 + τ))) 42 + pq_val l := pq_sum_put (fun k hk => pq_upd hk) (by rw [u1l, pq_Tn (by decide)]; omega) (by rw [pk_us, pq_Tn (by omega)]; omega) hl
  have t : τ = 0 ∨ τ = 1 := by omega
  refine ⟨?_, k2.trans k2', by rw [s2, s1], ?_, pk_us⟩
  · rcases t with e | e
    · subst e
      have p1 : zl_nn (upd up c (nI 4)) 4 = zl_nn up 4 + 1 := zn_put (w := a) (by decide) (by omega) hc huc (by omega)
      have p2 : zl_nn (upd (upd up c (nI 4)) l (nI 4)) 4 = zl_nn (upd up c (nI 4)) 4 + 1 := zn_put (w := 3) (by decide) (by decide) hl u1l (by decide)
      have p3 : zl_nn (upd up c (nI 4)) 5 = zl_nn up 5 := zn_keep (y := a) (by decide) (by decide) (by omega) hc huc (by decide) (by omega)
      have p4 : zl_nn (upd (upd up c (nI 4)) l (nI 4)) 5 = zl_nn (upd up c (nI 4)) 5 := zn_keep (y := 3) (by decide) (by decide) (by decide) hl u1l (by decide) (by decide)
      show zl_nn (upd (upd up c (nI 4)) l (nI 4)) 4 + zl_nn (upd (upd up c (nI 4)) l (nI 4)) 5 = _
      omega
    · subst e
      have p1 : zl_nn (upd up c (nI 5)) 5 = zl_nn up 5 + 1 := zn_put (w := a) (by decide) (by omega) hc huc (by omega)
      have p2 : zl_nn (upd (upd up c (nI 5)) l (nI 5)) 5 = zl_nn (upd up c (nI 5)) 5 + 1 := zn_put (w := 3) (by decide) (by decide) hl u1l (by decide)
      have p3 : zl_nn (upd up c (nI 5)) 4 = zl_nn up 4 := zn_keep (y := a) (by decide) (by decide) (by omega) hc huc (by decide) (by omega)
      have p4 : zl_nn (upd (upd up c (nI 5)) l (nI 5)) 4 = zl_nn (upd up c (nI 5)) 4 := zn_keep (y := 3) (by decide) (by decide) (by decide) hl u1l (by decide) (by decide)
      show zl_nn (upd (upd up c (nI 5)) l (nI 5)) 4 + zl_nn (upd (upd up c (nI 5)) l (nI 5)) 5 = _
      omega
  · rw [pk_un (fun e => hcl e.symm), pk_us]
theorem pq_dr2 {u2 U : Nat → Int32} {τ σ E E' : Nat} (hτ : τ + σ = 1) (h : (E = 15 ∧ E' = 15 ∧ U = u2) ∨ (E < 15 ∧ E' = E + 1 ∧ ∃ x1 x2, x1 < 42 ∧ x2 < 42 ∧ ¬ x2 = x1 ∧ u2 x1 = nI 2 ∧ u2 x2 = nI 2 ∧ U = upd (upd u2 x1 (nI τ)) x2 (nI σ))) :
    zl_nn U 4 = zl_nn u2 4 ∧ zl_nn U 5 = zl_nn u2 5 ∧ zl_nn U 2 + 2 * E' = zl_nn u2 2 + 2 * E ∧ pq_sum U 42 = pq_sum u2 42 ∧ (∀ d, pq_T (u2 d) → U d = u2 d) := by
  rcases h with ⟨e1, e2, e3⟩ | ⟨e1, e2, x1, x2, h1, h2, ne, v1, v2, e3⟩
  · subst e1; subst e2; subst e3
    exact ⟨rfl, rfl, rfl, rfl, fun _ _ => rfl⟩
  · subst e2; subst e3
    have w2 : (upd u2 x1 (nI τ)) x2 = nI 2 := by rw [pk_un ne]; exact v2
    have k : ∀ v, v < 6 → 4 ≤ v → zl_nn (upd (upd u2 x1 (nI τ)) x2 (nI σ)) v = zl_nn u2 v := fun v hv hv4 => (zn_keep (y := 2) hv (by omega) (by decide) h2 w2 (by omega) (by omega)).trans (zn_keep (y := 2) hv (by omega) (by decide) h1 v1 (by omega) (by omega))
    have o1 : zl_nn (upd u2 x1 (nI τ)) 2 + 1 = zl_nn u2 2 := zn_out (by decide) (by omega) h1 v1 (by omega)
    have o2 : zl_nn (upd (upd u2 x1 (nI τ)) x2 (nI σ)) 2 + 1 = zl_nn (upd u2 x1 (nI τ)) 2 := zn_out (by decide) (by omega) h2 w2 (by omega)
    refine ⟨k 4 (by decide) (by decide), k 5 (by decide) (by decide), by omega, ?_, fun d hd => ?_⟩
    · have a1 : pq_sum (upd (upd u2 x1 (nI τ)) x2 (nI σ)) 42 = pq_sum (upd u2 x1 (nI τ)) 42 := pq_sum_cong (fun k _ => by
        by_cases e : k = x2
        · subst e; rw [pk_us, w2, pq_Tn (by omega), pq_Tn (by decide)]; omega
        · exact (pq_upd e).symm)
      have a2 : pq_sum (upd u2 x1 (nI τ)) 42 = pq_sum u2 42 := pq_sum_cong (fun k _ => by
        by_cases e : k = x1
        · subst e; rw [pk_us, v1, pq_Tn (by omega), pq_Tn (by decide)]; omega
        · exact (pq_upd e).symm)
      exact a1.trans a2
    · have n1 : ¬ d = x1 := fun e => by rw [e, v1, pq_Tn (by decide)] at hd; omega
      have n2 : ¬ d = x2 := fun e => by rw [e, v2, pq_Tn (by decide)] at hd; omega
      rw [pk_un n2, pk_un n1]
section PQ
variable {vrow : Nat → Int32} {up ur us ut ug uw : Nat → Int32} {sp f s : Int32}
theorem pq_fin {t a b l c E : Nat} {g inv : Nat → Nat} {k1 k2 : Int64} (ht : t < 4) (hab : a + b = 1) (hE : E ≤ 15) (hl : l < 42) (hc : c < 42) (hr : zr_row vrow ur g inv) (hp : ∀ j, 12 + 2 * E ≤ j → j < 42 → up (g (zr_s j)) = nI 2) (h3 : ∀ c, c < 42 → (up c = nI 3 ↔ c = l)) (huc : up c = nI a)
    (hk1 : ∀ w, w < 6 → 4 ≤ w → zr_hand (upd up c (nI w)) 0 k1) (hk2 : ∀ w, w < 6 → 4 ≤ w → zr_hand (upd up c (nI w)) 1 k2) (hn : zl_nn up a = zl_nn up b + 1) (hn6 : zl_nn up a ≤ 6) (hn15 : E < 15 → zl_nn up a = 6) (hJ : pq_J up us ut uw (nI (2 * E)) 1 sp f s) :
    ∃ τ σ E' : Nat, τ + σ = 1 ∧ (if j_X3_takes (nI t) (nI c) (nI l) = 0 then 1 - nI a else nI a) = nI τ ∧ (j_X3_ends_uplace up ur (nI (2 * E)) 1 (nI a) (nI l) (nI t) (nI c) c = nI (4 + τ) ∧ j_X3_ends_uplace up ur (nI (2 * E)) 1 (nI a) (nI l) (nI t) (nI c) l = nI (4 + τ)) ∧
      (j_X3_ends_udrawn (nI (2 * E)) 1 = nI (2 * E') ∧ E' ≤ 15 ∧ ((E = 15 ∧ E' = 15) ∨ (E < 15 ∧ E' = E + 1))) ∧
      zl_nn (j_X3_ends_uplace up ur (nI (2 * E)) 1 (nI a) (nI l) (nI t) (nI c)) 0 + zl_nn (j_X3_ends_uplace up ur (nI (2 * E)) 1 (nI a) (nI l) (nI t) (nI c)) 1 + zl_nn (j_X3_ends_uplace up ur (nI (2 * E)) 1 (nI a) (nI l) (nI t) (nI c)) 2 + 1 ≤ zl_nn up 0 + zl_nn up 1 + zl_nn up 2 ∧
      (j_X3_ends_upts us ug (nI a) (nI l) (nI t) (nI c) τ = ((us τ + pq_val c) + pq_val l) + (if ug τ = 1 then 5 * (pq_m c + pq_m l) else 0)) ∧ j_X3_ends_utks ut (nI a) (nI l) (nI t) (nI c) τ = ut τ + 1 ∧
      pq_J (j_X3_ends_uplace up ur (nI (2 * E)) 1 (nI a) (nI l) (nI t) (nI c)) (j_X3_ends_upts us ug (nI a) (nI l) (nI t) (nI c)) (j_X3_ends_utks ut (nI a) (nI l) (nI t) (nI c)) (j_X3_ends_uwin up ur us ug uw (nI (2 * E)) 1 (nI a) (nI l) (nI t) (nI c)) (j_X3_ends_udrawn (nI (2 * E)) 1) (j_X3_ends_uon up ur (nI (2 * E)) 1 1 (nI a) (nI l) (nI t) (nI c)) (sp + (if ug τ = 1 then pq_m c + pq_m l else 0)) f s := by
  obtain ⟨τ, σ, hτ, Tm⟩ : ∃ τ σ, τ + σ = 1 ∧ (if j_X3_takes (nI t) (nI c) (nI l) = 0 then 1 - nI a else nI a) = nI τ := by
    by_cases q : j_X3_takes (nI t) (nI c) (nI l) = 0
    · exact ⟨b, a, by omega, by rw [if_pos q, zm_fl hab]⟩
    · exact ⟨a, b, hab, by rw [if_neg q]⟩
  have hτ2 : τ < 2 := by omega
  have ul : up l = nI 3 := (h3 l hl).mpr rfl
  have hcl : ¬ l = c := by
    intro e
    rw [e, huc] at ul
    have := (zn_nI (v := 3) (w := a) (by decide) (by omega)).mp ul
    omega
  have hab2 : (a = 0 ∧ b = 1) ∨ (a = 1 ∧ b = 0) := by omega
  have u1l : (upd up c (nI (4 + τ))) l = nI 3 := by rw [pk_un hcl]; exact ul
  have f1 : zr_hand (upd (upd up c (nI (4 + τ))) l (nI (4 + τ))) 0 k1 := zh_keep (by decide) (by omega) (by omega) (by rw [u1l]; decide) (hk1 (4 + τ) (by omega) (by omega))
  have f2 : zr_hand (upd (upd up c (nI (4 + τ))) l (nI (4 + τ))) 1 k2 := zh_keep (by decide) (by omega) (by omega) (by rw [u1l]; decide) (hk2 (4 + τ) (by omega) (by omega))
  have m1 : ∀ v, v < 2 → zl_nn (upd (upd up c (nI (4 + τ))) l (nI (4 + τ))) v = zl_nn (upd up c (nI (4 + τ))) v := fun v hv => zn_keep (y := 3) (by omega) (by omega) (by decide) hl u1l (by omega) (by omega)
  have mA : zl_nn (upd up c (nI (4 + τ))) a + 1 = zl_nn up a := zn_out (by omega) (by omega) hc huc (by omega)
  have mB : zl_nn (upd up c (nI (4 + τ))) b = zl_nn up b := zn_keep (y := a) (by omega) (by omega) (by omega) hc huc (by omega) (by omega)
  have f7 : zl_nn (upd (upd up c (nI (4 + τ))) l (nI (4 + τ))) 0 = zl_nn (upd (upd up c (nI (4 + τ))) l (nI (4 + τ))) 1 ∧ zl_nn (upd (upd up c (nI (4 + τ))) l (nI (4 + τ))) 0 + 1 = zl_nn up a := by
    rw [m1 0 (by decide), m1 1 (by decide)]
    rcases hab2 with ⟨e1, e2⟩ | ⟨e1, e2⟩
    · subst e1; subst e2; omega
    · subst e1; subst e2; omega
  have f8 : ∀ j, 12 + 2 * E ≤ j → j < 42 → (upd (upd up c (nI (4 + τ))) l (nI (4 + τ))) (g (zr_s j)) = nI 2 := by
    intro j h1 h2
    have u := hp j h1 h2
    have x1 : ¬ g (zr_s j) = l := fun e => by rw [e, ul] at u; exact absurd u (by decide)
    have x2 : ¬ g (zr_s j) = c := fun e => by
      rw [e, huc] at u
      have := (zn_nI (v := 2) (w := a) (by decide) (by omega)).mp u
      omega
    rw [pk_un x1, pk_un x2]
    exact u
  obtain ⟨t4, t2, tS, tc, tl⟩ := pq_take (by omega) hτ2 hc hl huc ul
  obtain ⟨U0, H1, H2, E0, ⟨eU0, eD0, _⟩, _, _, F1, F2, _, _, F5, F6, F7⟩ := zp_draw hτ hE hr f8 f1 f2 f7.1 (fun h => by have := hn15 h; omega) (by omega)
  obtain ⟨U, E', eU, eD, hE', hU⟩ := pq_draw (τ := τ) (σ := σ) hE hr f8
  have eUU : U0 = U := eU0.symm.trans eU
  subst eUU
  have eEE : E0 = E' := by
    have q := eD0.symm.trans eD
    have := (nI_eq (by omega) (by omega)).mp q
    omega
  subst eEE
  obtain ⟨d4, d5, d2, dS, dT⟩ := pq_dr2 hτ hU
  have eUp : j_X3_ends_uplace up ur (nI (2 * E)) 1 (nI a) (nI l) (nI t) (nI c) = U0 := by
    unfold j_X3_ends_uplace
    have e4 : (4 : Int32) + nI τ = nI (4 + τ) := nI_add 4 τ
    rw [Tm, e4, nI_clamp (show c < 2 ^ 31 by omega), nI_clamp (show l < 2 ^ 31 by omega), zm_fl hτ]
    exact eU
  have eDr : j_X3_ends_udrawn (nI (2 * E)) 1 = nI (2 * E0) := eD
  have t4T : pq_T (nI (4 + τ)) := (pq_Tn (by omega)).mpr (by omega)
  have Uc : U0 c = nI (4 + τ) := (dT c (by rw [tc]; exact t4T)).trans tc
  have Ul : U0 l = nI (4 + τ) := (dT l (by rw [tl]; exact t4T)).trans tl
  have ptsq : j_X3_ends_upts us ug (nI a) (nI l) (nI t) (nI c) = upd us τ (((us τ + pq_val c) + pq_val l) + (if ug τ = 1 then 5 * (pq_m c + pq_m l) else 0)) := by
    unfold j_X3_ends_upts
    rw [Tm, nI_clamp (show τ < 2 ^ 31 by omega), pq_gain hc hl]
  have tksq : j_X3_ends_utks ut (nI a) (nI l) (nI t) (nI c) = upd ut τ (ut τ + 1) := by
    unfold j_X3_ends_utks
    rw [Tm, nI_clamp (show τ < 2 ^ 31 by omega)]
  obtain ⟨E9, q0, q1, ⟨j1, j2⟩, ⟨j3, j4, j5⟩, j6, j7, j8, j9⟩ := hJ
  have hE9 : E9 = E := by
    have := (nI_eq (a := 2 * E) (b := 2 * E9) (by omega) (by omega)).mp j2
    omega
  subst hE9
  obtain ⟨_, ov2⟩ := zp_over F1 F2 F5
  have cse : (E9 = 15 ∧ E0 = 15) ∨ (E9 < 15 ∧ E0 = E9 + 1) := hU.imp (fun q => ⟨q.1, q.2.1⟩) (fun q => ⟨q.1, q.2.1⟩)
  have cnt : zl_nn U0 0 + zl_nn U0 1 + zl_nn U0 2 + 1 ≤ zl_nn up 0 + zl_nn up 1 + zl_nn up 2 := by
    rcases hU with ⟨z1, z2, z3⟩ | ⟨z1, z2, x1, x2, x3, x4, x5, x6, x7, z3⟩
    · subst z3
      rcases hab2 with ⟨e1, e2⟩ | ⟨e1, e2⟩
      · subst e1; subst e2; omega
      · subst e1; subst e2; omega
    · have l6 : zl_nn U0 0 ≤ 6 := F6
      have v6 := hn15 z1
      rcases hab2 with ⟨e1, e2⟩ | ⟨e1, e2⟩
      · subst e1; subst e2; omega
      · subst e1; subst e2; omega
  refine ⟨τ, σ, E0, hτ, Tm, ⟨by rw [eUp]; exact Uc, by rw [eUp]; exact Ul⟩, ⟨eDr, hE', cse⟩, by rw [eUp]; exact cnt, by rw [ptsq, pk_us], by rw [tksq, pk_us], ?_⟩
  rw [zp_uw, zp_uo, ptsq, tksq, eUp, eDr]
  have nJ : ∃ q0' q1', (upd ut τ (ut τ + 1)) 0 = nI q0' ∧ (upd ut τ (ut τ + 1)) 1 = nI q1' ∧ zl_nn U0 4 + zl_nn U0 5 = 2 * (q0' + q1') := by
    have : τ = 0 ∨ τ = 1 := by omega
    rcases this with e | e
    · subst e
      exact ⟨q0 + 1, q1, by rw [pk_us, j3, nI_1], by rw [pk_un (by decide), j4], by omega⟩
    · subst e
      exact ⟨q0, q1 + 1, by rw [pk_un (by decide), j3], by rw [pk_us, j4, nI_1], by omega⟩
  obtain ⟨q0', q1', n1, n2, n3⟩ := nJ
  have pS : (upd us τ (((us τ + pq_val c) + pq_val l) + (if ug τ = 1 then 5 * (pq_m c + pq_m l) else 0))) 0 + (upd us τ (((us τ + pq_val c) + pq_val l) + (if ug τ = 1 then 5 * (pq_m c + pq_m l) else 0))) 1 = pq_sum U0 42 + 5 * (sp + (if ug τ = 1 then pq_m c + pq_m l else 0)) := by
    have e5 : (if ug τ = 1 then 5 * (pq_m c + pq_m l) else 0) = 5 * (if ug τ = 1 then pq_m c + pq_m l else 0) := by
      by_cases q : ug τ = 1
      · rw [if_pos q, if_pos q]
      · rw [if_neg q, if_neg q]; decide
    rw [dS, tS, e5, pq_5 sp]
    generalize 5 * (if ug τ = 1 then pq_m c + pq_m l else 0) = X at *
    have : τ = 0 ∨ τ = 1 := by omega
    rcases this with e | e
    · subst e
      rw [pk_us, pk_un (by decide)]
      have : ((us 0 + pq_val c + pq_val l) + X) + us 1 = ((us 0 + us 1) + pq_val c + pq_val l) + X := by ac_rfl
      rw [this, j7]
      ac_rfl
    · subst e
      rw [pk_us, pk_un (by decide)]
      have : us 0 + ((us 1 + pq_val c + pq_val l) + X) = ((us 0 + us 1) + pq_val c + pq_val l) + X := by ac_rfl
      rw [this, j7]
      ac_rfl
  have jw : uw 0 = f ∧ uw 1 = s := by
    rcases j9 with ⟨_, w⟩ | ⟨w, _⟩
    · exact w
    · exact absurd w (by decide)
  generalize upd us τ (((us τ + pq_val c) + pq_val l) + (if ug τ = 1 then 5 * (pq_m c + pq_m l) else 0)) = vs at *
  by_cases z : zl_nn U0 0 = 0
  · rw [if_pos (ov2.mpr z), if_pos (ov2.mpr z)]
    refine ⟨E0, q0', q1', ⟨hE', rfl⟩, ⟨n1, n2, n3⟩, by omega, pS, fun _ => ⟨z, by rw [← F5]; exact z, ?_⟩, Or.inr ⟨rfl, ?_, ?_⟩⟩
    · rcases Nat.lt_or_ge E0 15 with h | h
      · have := F7 h; omega
      · omega
    · rw [zr_c0, zr_c1, pk_un (by decide), pk_us, jw.1]
    · rw [zr_c0, zr_c1, pk_us, pk_un (by decide), jw.2]
  · rw [if_neg (fun e => z (ov2.mp e)), if_neg (fun e => z (ov2.mp e))]
    exact ⟨E0, q0', q1', ⟨hE', rfl⟩, ⟨n1, n2, n3⟩, by omega, pS, fun e => absurd e (by decide), Or.inl ⟨rfl, jw⟩⟩
end PQ
