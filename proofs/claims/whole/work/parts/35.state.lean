/-! THE PLACE OF A REST IN THE TABLE: one to one -/
theorem zk_low {y : Int64} (h0 : ¬ y = 0) : ∃ m, m < 64 ∧ zs_in y m = true ∧ ∀ d, zs_in (y &&& (-y)) d = decide (d = m) := by
  have e : ∃ k, zs_in y k = true := by
    by_cases q : ∃ k, zs_in y k = true
    · exact q
    · refine absurd (zs_nil.mpr (fun c _ => ?_)) h0
      cases r : zs_in y c with
      | false => rfl
      | true => exact absurd ⟨c, r⟩ q
  obtain ⟨m, hm, hl⟩ := pk_least (fun k => zs_in y k = true) e
  have h64 : m < 64 := by
    rcases Nat.lt_or_ge m 64 with q | q
    · exact q
    · rw [zs_big y q] at hm; exact absurd hm (by decide)
  refine ⟨m, h64, hm, fun d => ?_⟩
  have n : zs_in (-y) d = (zs_in y d ^^ (decide (d < 64) && decide (∃ j, j < d ∧ zs_in y j = true))) := by
    unfold zs_in
    rw [Int64.toBitVec_neg, BitVec.getLsbD_neg]
  rw [zs_and, n]
  rcases Nat.lt_trichotomy d m with q | q | q
  · have : zs_in y d = false := by
      cases r : zs_in y d with
      | false => rfl
      | true => exact absurd r (hl d q)
    rw [this]
    have : ¬ d = m := by omega
    simp [this]
  · subst q
    have : ¬ ∃ j, j < d ∧ zs_in y j = true := fun ⟨j, hj, r⟩ => hl j hj r
    simp [hm, this]
  · have hx : ∃ j, j < d ∧ zs_in y j = true := ⟨m, q, hm⟩
    have hn : ¬ d = m := by omega
    cases r : zs_in y d with
    | false => simp [hn]
    | true =>
      have h6 : d < 64 := by
        rcases Nat.lt_or_ge d 64 with s | s
        · exact s
        · rw [zs_big y s] at r; exact absurd r (by decide)
      simp [hn, hx, h6]
def zk_n (h : Int64) : Nat → Int64 → Nat
  | 0, _ => 0
  | n + 1, y => (if lg_cmp (h &&& (y &&& (-y))) 0 = 0 then 0 else 1) + 2 * zk_n h n (y &&& ((y &&& (-y)) ^^^ (-1)))
theorem zk_lt (h : Int64) : ∀ (n : Nat) (y : Int64), zk_n h n y < 2 ^ n
  | 0, _ => by
    show 0 < 2 ^ 0
    decide
  | n + 1, y => by
    have ih := zk_lt h n (y &&& ((y &&& (-y)) ^^^ (-1)))
    show (if lg_cmp (h &&& (y &&& (-y))) 0 = 0 then 0 else 1) + 2 * zk_n h n (y &&& ((y &&& (-y)) ^^^ (-1))) < 2 ^ (n + 1)
    rw [Nat.pow_succ]
    split <;> omega
theorem zk_or : ∀ i, i < 6 → ∀ y, y < 2 ^ i → nI y ||| ((1 : Int32) <<< ((nI i) &&& 31)) = nI (y + 2 ^ i) := by decide +kernel
theorem zk_eq (x0 x1 : Int64) : ∀ (n i y4 : Nat) (y5 : Int64), y4 < 2 ^ i → i + n ≤ 6 → j_X1_keptOf_9 x0 x1 n i (nI y4) y5 = nI (y4 + 2 ^ i * zk_n x0 n y5)
  | 0, i, y4, y5, _, _ => by
    show nI y4 = nI (y4 + 2 ^ i * 0)
    rw [Nat.mul_zero, Nat.add_zero]
  | n + 1, i, y4, y5, h4, hi => by
    have hp : 2 ^ (i + 1) = 2 * 2 ^ i := by rw [Nat.pow_succ, Nat.mul_comm]
    show (if lg_cmp (x0 &&& (y5 &&& (-y5))) 0 = 0 then j_X1_keptOf_9 x0 x1 n (i + 1) (nI y4) (y5 &&& ((y5 &&& (-y5)) ^^^ (-1))) else j_X1_keptOf_9 x0 x1 n (i + 1) ((nI y4) ||| (1 <<< ((nI i) &&& 31))) (y5 &&& ((y5 &&& (-y5)) ^^^ (-1)))) = nI (y4 + 2 ^ i * ((if lg_cmp (x0 &&& (y5 &&& (-y5))) 0 = 0 then 0 else 1) + 2 * zk_n x0 n (y5 &&& ((y5 &&& (-y5)) ^^^ (-1)))))
    by_cases q : lg_cmp (x0 &&& (y5 &&& (-y5))) 0 = 0
    · rw [if_pos q, if_pos q, zk_eq x0 x1 n (i + 1) y4 _ (by omega) (by omega), hp]
      congr 1
      rw [Nat.zero_add, Nat.mul_comm 2 (2 ^ i), Nat.mul_assoc]
    · rw [if_neg q, if_neg q, zk_or i (by omega) y4 h4, zk_eq x0 x1 n (i + 1) (y4 + 2 ^ i) _ (by omega) (by omega), hp]
      congr 1
      rw [Nat.mul_add, Nat.mul_one, Nat.mul_comm 2 (2 ^ i), Nat.mul_assoc, Nat.add_assoc]
def zk_k (h all : Int64) : Nat := zk_n h 6 all
theorem zk_kept (h all : Int64) : j_X1_keptOf h all = nI (zk_k h all) := by
  have e := zk_eq h all 6 0 0 all (by decide) (by decide)
  rw [show (2 : Nat) ^ 0 = 1 from rfl, Nat.one_mul, Nat.zero_add] at e
  exact e
theorem zk_k64 (h all : Int64) : zk_k h all < 64 := zk_lt h 6 all
theorem zk_dl {y : Int64} {m : Nat} (hm : m < 64) (hl : ∀ d, zs_in (y &&& (-y)) d = decide (d = m)) (d : Nat) : zs_in (y &&& ((y &&& (-y)) ^^^ (-1))) d = (zs_in y d && !decide (d = m)) := by
  rw [zs_and, zs_xor, hl]
  by_cases hd : d < 64
  · rw [zs_m1 hd]; simp
  · rw [zs_big y (by omega)]; simp
theorem zk_inj {h h' : Int64} : ∀ (n : Nat) (y : Int64), fb_ct (zs_in y) 64 ≤ n → zk_n h n y = zk_n h' n y → ∀ c, zs_in y c = true → zs_in h c = zs_in h' c
  | 0, y, hy, _, c, hc => by
    have h6 : c < 64 := by
      rcases Nat.lt_or_ge c 64 with s | s
      · exact s
      · rw [zs_big y s] at hc; exact absurd hc (by decide)
    have := fb_ct_zero.mp (Nat.le_zero.mp hy) c h6
    rw [hc] at this
    exact absurd this (by decide)
  | n + 1, y, hy, e, c, hc => by
    by_cases y0 : y = 0
    · subst y0
      rw [zs_0] at hc
      exact absurd hc (by decide)
    · obtain ⟨m, hm, him, hl⟩ := zk_low y0
      have cond : ∀ g : Int64, lg_cmp (g &&& (y &&& (-y))) 0 = 0 ↔ zs_in g m = false := by
        intro g
        rw [zs_cmp]
        constructor
        · intro k
          have := k m hm
          rw [zs_and, hl] at this
          simpa using this
        · intro k d _
          rw [zs_and, hl]
          by_cases q : d = m
          · subst q; simp [k]
          · simp [q]
      have e' : (if lg_cmp (h &&& (y &&& (-y))) 0 = 0 then 0 else 1) + 2 * zk_n h n (y &&& ((y &&& (-y)) ^^^ (-1))) = (if lg_cmp (h' &&& (y &&& (-y))) 0 = 0 then 0 else 1) + 2 * zk_n h' n (y &&& ((y &&& (-y)) ^^^ (-1))) := e
      have ct : fb_ct (zs_in (y &&& ((y &&& (-y)) ^^^ (-1)))) 64 ≤ n := by
        have u := fb_ct_upd (zs_in y) false hm
        have v : fb_ct (zs_in (y &&& ((y &&& (-y)) ^^^ (-1)))) 64 = fb_ct (fun k => if k = m then false else zs_in y k) 64 :=
          fb_ct_cong (fun d _ => by
            rw [zk_dl hm hl]
            by_cases q : d = m
            · simp [q]
            · simp [q])
        rw [him, if_pos rfl, if_neg (by decide)] at u
        rw [v]
        omega
      have hh : zs_in h m = zs_in h' m := by
        by_cases q : lg_cmp (h &&& (y &&& (-y))) 0 = 0
        · by_cases q' : lg_cmp (h' &&& (y &&& (-y))) 0 = 0
          · rw [(cond h).mp q, (cond h').mp q']
          · rw [if_pos q, if_neg q'] at e'; omega
        · by_cases q' : lg_cmp (h' &&& (y &&& (-y))) 0 = 0
          · rw [if_neg q, if_pos q'] at e'; omega
          · cases r : zs_in h m with
            | false => exact absurd ((cond h).mpr r) q
            | true =>
              cases r' : zs_in h' m with
              | false => exact absurd ((cond h').mpr r') q'
              | true => rfl
      have et : zk_n h n (y &&& ((y &&& (-y)) ^^^ (-1))) = zk_n h' n (y &&& ((y &&& (-y)) ^^^ (-1))) := by
        by_cases q : lg_cmp (h &&& (y &&& (-y))) 0 = 0
        · by_cases q' : lg_cmp (h' &&& (y &&& (-y))) 0 = 0
          · rw [if_pos q, if_pos q'] at e'; omega
          · rw [if_pos q, if_neg q'] at e'; omega
        · by_cases q' : lg_cmp (h' &&& (y &&& (-y))) 0 = 0
          · rw [if_neg q, if_pos q'] at e'; omega
          · rw [if_neg q, if_neg q'] at e'; omega
      by_cases q : c = m
      · subst q; exact hh
      · refine zk_inj n _ ct et c ?_
        rw [zk_dl hm hl, hc]
        simp [q]
def zs_le (x a : Int64) : Prop := ∀ c, zs_in x c = true → zs_in a c = true
theorem zs_le_drop {x a : Int64} (h : zs_le x a) {c : Nat} (hc : c < 42) : zs_le (x &&& ((j_X2_bit (nI c)) ^^^ (-1))) a := by
  intro d hd
  rw [zs_drop (by omega)] at hd
  exact h d (by simp at hd; exact hd.1)
theorem zs_ct64 {a : Int64} (hw : zs_w a) : fb_ct (zs_in a) 64 = zs_ct a := by
  have e := fb_ct_split (zs_in a) 42 22
  have z : fb_ct (fun k => zs_in a (42 + k)) 22 = 0 := fb_ct_zero.mpr (fun k _ => hw _ (by omega))
  rw [z] at e
  exact e
theorem zs_le_ct {x a : Int64} (h : zs_le x a) : zs_ct x ≤ zs_ct a := fb_ct_sub (fun k _ => h k)
theorem zk_kinj {x x' a : Int64} (hw : zs_w a) (h6 : zs_ct a ≤ 6) (h : zs_le x a) (h' : zs_le x' a) (e : zk_k x a = zk_k x' a) : x = x' := by
  refine zs_ext (fun c _ => ?_)
  cases r : zs_in a c with
  | true => exact zk_inj 6 a (by rw [zs_ct64 hw]; exact h6) e c r
  | false =>
    have : zs_in x c = false := by
      cases s : zs_in x c with
      | false => rfl
      | true => rw [h c s] at r; exact absurd r (by decide)
    have t : zs_in x' c = false := by
      cases s : zs_in x' c with
      | false => rfl
      | true => rw [h' c s] at r; exact absurd r (by decide)
    rw [this, t]
theorem zk_comb : ∀ a, a < 2 → ∀ k, k < 64 → ∀ m, m < 64 → ((nI a <<< ((12 : Int32) &&& 31)) ||| ((nI k) <<< ((6 : Int32) &&& 31))) ||| (nI m) = nI (4096 * a + (64 * k + m)) := by decide +kernel
/-- whose hands they are -/
def zv_sub (fa sa x1 x2 : Int64) (x4 : Int32) : Prop := (x4 = 0 ∧ zs_le x1 fa ∧ zs_le x2 sa) ∨ (x4 = 1 ∧ zs_le x1 sa ∧ zs_le x2 fa)
def zv_ix (fa sa x0 x1 : Int64) (x2 : Int32) : Nat := if x2 = 0 then 64 * zk_k x0 fa + zk_k x1 sa else 4096 + (64 * zk_k x1 fa + zk_k x0 sa)
theorem zv_st {fa sa x0 x1 : Int64} {x2 : Int32} (h : x2 = 0 ∨ x2 = 1) : q_st fa sa x0 x1 x2 = nI (zv_ix fa sa x0 x1 x2) := by
  unfold q_st zv_ix
  rcases h with h | h
  · subst h
    rw [if_pos rfl, if_pos rfl]
    unfold j_X1_stateOf
    rw [zk_kept, zk_kept]
    have e := zk_comb 0 (by decide) _ (zk_k64 x0 fa) _ (zk_k64 x1 sa)
    rw [Nat.mul_zero, Nat.zero_add] at e
    exact e
  · subst h
    rw [if_neg (by decide), if_neg (by decide)]
    unfold j_X1_stateOf
    rw [zk_kept, zk_kept]
    exact zk_comb 1 (by decide) _ (zk_k64 x1 fa) _ (zk_k64 x0 sa)
theorem zv_ix_lt (fa sa x0 x1 : Int64) (x2 : Int32) : zv_ix fa sa x0 x1 x2 < 8192 := by
  unfold zv_ix
  have a := zk_k64 x0 fa
  have b := zk_k64 x1 fa
  have c := zk_k64 x0 sa
  have d := zk_k64 x1 sa
  split <;> omega
theorem zv_inj {fa sa x0 x1 y0 y1 : Int64} {x2 y2 : Int32} (w1 : zs_w fa) (w2 : zs_w sa) (c1 : zs_ct fa ≤ 6) (c2 : zs_ct sa ≤ 6) (h : zv_sub fa sa x0 x1 x2) (h' : zv_sub fa sa y0 y1 y2) (e : zv_ix fa sa x0 x1 x2 = zv_ix fa sa y0 y1 y2) : x0 = y0 ∧ x1 = y1 ∧ x2 = y2 := by
  have a := zk_k64 x0 fa
  have b := zk_k64 x1 fa
  have c := zk_k64 x0 sa
  have d := zk_k64 x1 sa
  have a' := zk_k64 y0 fa
  have b' := zk_k64 y1 fa
  have c' := zk_k64 y0 sa
  have d' := zk_k64 y1 sa
  unfold zv_ix at e
  rcases h with ⟨q, l1, l2⟩ | ⟨q, l1, l2⟩
  · rcases h' with ⟨q', m1, m2⟩ | ⟨q', m1, m2⟩
    · subst q; subst q'
      rw [if_pos rfl, if_pos rfl] at e
      exact ⟨zk_kinj w1 c1 l1 m1 (by omega), zk_kinj w2 c2 l2 m2 (by omega), rfl⟩
    · subst q; subst q'
      rw [if_pos rfl, if_neg (by decide)] at e
      omega
  · rcases h' with ⟨q', m1, m2⟩ | ⟨q', m1, m2⟩
    · subst q; subst q'
      rw [if_pos rfl, if_neg (by decide)] at e
      omega
    · subst q; subst q'
      rw [if_neg (by decide), if_neg (by decide)] at e
      exact ⟨zk_kinj w2 c2 l1 m1 (by omega), zk_kinj w1 c1 l2 m2 (by omega), rfl⟩
def zv_OK (fa sa : Int64) (d : Nat) (x1 x2 : Int64) (x3 x4 : Int32) : Prop := zs_sz d x1 x2 x3 ∧ zv_sub fa sa x1 x2 x4
def zv_Val (fa sa : Int64) (vtr : Int32) (tab : Nat → Int32) : Prop := ∀ (x0 x1 : Int64) (x2 : Int32), zs_sz 12 x0 x1 (-1) → zv_sub fa sa x0 x1 x2 → tab (zv_ix fa sa x0 x1 x2) = 1000 ∨ tab (zv_ix fa sa x0 x1 x2) = q_m vtr 12 x0 x1 (-1) x2 0
theorem zv_01 {fa sa x1 x2 : Int64} {x4 : Int32} (h : zv_sub fa sa x1 x2 x4) : x4 = 0 ∨ x4 = 1 := h.imp (fun q => q.1) (fun q => q.1)
theorem zv_12 {fa sa x1 x2 : Int64} {x3 x4 : Int32} {d : Nat} (c1 : zs_ct fa ≤ 6) (c2 : zs_ct sa ≤ 6) (h : zv_OK fa sa d x1 x2 x3 x4) : zs_sz 12 x1 x2 x3 := by
  refine ⟨h.1.1, h.1.2.1, ?_, h.1.2.2.2⟩
  rcases h.2 with ⟨_, l1, l2⟩ | ⟨_, l1, l2⟩
  · have := zs_le_ct l1
    have := zs_le_ct l2
    omega
  · have := zs_le_ct l1
    have := zs_le_ct l2
    omega
theorem zv_clamp {fa sa x0 x1 : Int64} {x2 : Int32} (h : x2 = 0 ∨ x2 = 1) : (q_st fa sa x0 x1 x2).toNatClampNeg = zv_ix fa sa x0 x1 x2 := by
  have := zv_ix_lt fa sa x0 x1 x2
  rw [zv_st h, nI_clamp (by omega)]
theorem zv_VR {fa sa : Int64} {vtr : Int32} (c1 : zs_ct fa ≤ 6) (c2 : zs_ct sa ≤ 6) : q_VR fa sa vtr (zv_OK fa sa) (zv_Val fa sa vtr) := by
  intro tab d x0 x1 x2 hV hO
  have k := zv_01 hO.2
  have h12 := zv_12 c1 c2 hO
  refine ⟨?_, ?_⟩
  · rw [zv_st k]
    exact vp_in_nI (zv_ix_lt _ _ _ _ _) (by decide)
  · rw [zv_clamp k, zg_ind d 12 x0 x1 (-1) x2 0 hO.1 h12]
    exact hV x0 x1 x2 h12 hO.2
theorem zv_VS {fa sa : Int64} {vtr : Int32} (w1 : zs_w fa) (w2 : zs_w sa) (c1 : zs_ct fa ≤ 6) (c2 : zs_ct sa ≤ 6) : q_VS fa sa vtr (zv_OK fa sa) (zv_Val fa sa vtr) := by
  intro tab d x0 x1 x2 hV hO y0 y1 y2 hz hs
  have k := zv_01 hO.2
  have h12 := zv_12 c1 c2 hO
  rw [zv_clamp k, zg_ind d 12 x0 x1 (-1) x2 0 hO.1 h12]
  by_cases e : zv_ix fa sa y0 y1 y2 = zv_ix fa sa x0 x1 x2
  · obtain ⟨e0, e1, e2⟩ := zv_inj w1 w2 c1 c2 hs hO.2 e
    subst e0; subst e1; subst e2
    rw [pk_us]
    exact Or.inr rfl
  · rw [pk_un e]
    exact hV y0 y1 y2 hz hs
theorem zv_flip {fa sa x1 x2 : Int64} {x4 : Int32} (h : zv_sub fa sa x1 x2 x4) : zv_sub fa sa x2 x1 (1 - x4) := by
  rcases h with ⟨q, l1, l2⟩ | ⟨q, l1, l2⟩
  · subst q; exact Or.inr ⟨by decide, l2, l1⟩
  · subst q; exact Or.inl ⟨by decide, l2, l1⟩
theorem zv_dropS {fa sa x1 x2 : Int64} {x4 : Int32} {i : Nat} (hi : i < 42) (h : zv_sub fa sa x1 x2 x4) : zv_sub fa sa (x1 &&& ((j_X2_bit (nI i)) ^^^ (-1))) x2 x4 :=
  h.imp (fun q => ⟨q.1, zs_le_drop q.2.1 hi, q.2.2⟩) (fun q => ⟨q.1, zs_le_drop q.2.1 hi, q.2.2⟩)
theorem zv_CL {fa sa : Int64} {vtr : Int32} (d : Nat) : q_CL vtr (zv_OK fa sa) d := by
  intro x1 x2 x3 x4 i hi hO m
  obtain ⟨n1, n2, n3⟩ := zs_szN hO.1 hi (zs_mayIn hi m)
  have s := zv_dropS hi hO.2
  exact ⟨fun e => ⟨n1 e, zv_flip s⟩, fun e => ⟨n2 e, s⟩, fun e => ⟨n3 e, zv_flip s⟩⟩
theorem zv_fill (x : Int32) : ∀ (n i : Nat) (tab zt : Nat → Int32), i + n < 2 ^ 31 → (∀ k, k < i → zt k = x) → ∀ k, k < i + n → j_J7_fill_53178_vtab_5 tab x n i zt k = x
  | 0, i, tab, zt, _, h, k, hk => h k (by omega)
  | n + 1, i, tab, zt, hi, h, k, hk => by
    show j_J7_fill_53178_vtab_5 tab x n (i + 1) (upd zt (nI i).toNatClampNeg x) k = x
    refine zv_fill x n (i + 1) tab _ (by omega) (fun j hj => ?_) k (by omega)
    rw [nI_clamp (by omega)]
    by_cases e : j = i
    · subst e; rw [pk_us]
    · rw [pk_un e]; exact h j (by omega)
theorem zv_new {fa sa : Int64} {vtr : Int32} (tab : Nat → Int32) : zv_Val fa sa vtr (j_X2_begunEnding_S0_vtab tab) := by
  intro x0 x1 x2 _ _
  refine Or.inl ?_
  have := zv_ix_lt fa sa x0 x1 x2
  show j_J7_fill_53178_vtab_5 tab 1000 8192 0 tab (zv_ix fa sa x0 x1 x2) = 1000
  exact zv_fill 1000 8192 0 tab tab (by decide) (fun k hk => absurd hk (Nat.not_lt_zero k)) _ (by omega)
