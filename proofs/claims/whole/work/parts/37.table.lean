/-! THE REFERENCE'S TABLE HOLDS THE VALUES -/
theorem zs_mono {d d' : Nat} {x1 x2 : Int64} {x3 : Int32} (h : zs_sz d x1 x2 x3) (hd : d ≤ d') : zs_sz d' x1 x2 x3 := ⟨h.1, h.2.1, Nat.le_trans h.2.2.1 hd, h.2.2.2⟩
theorem zg_byd {vtr : Int32} {d d' c : Nat} {x1 x2 : Int64} {x3 x4 x5 : Int32} (h : zs_sz (d + 1) x1 x2 x3) (h' : zs_sz (d' + 1) x1 x2 x3) (hc : c < 42) (hi : zs_in x1 c = true) : q_by vtr (q_m vtr d) (nI c) x1 x2 x3 x4 x5 = q_by vtr (q_m vtr d') (nI c) x1 x2 x3 x4 x5 := by
  obtain ⟨n1, n2, n3⟩ := zs_szN h hc hi
  obtain ⟨m1, m2, m3⟩ := zs_szN h' hc hi
  unfold q_by
  by_cases e : x3 = (-1)
  · rw [if_pos e, if_pos e, zg_ind d d' _ _ _ _ _ (n1 e) (m1 e)]
  · rw [if_neg e, if_neg e, zg_ind d d' _ _ _ _ _ (n2 e) (m2 e), zg_ind d d' _ _ _ _ _ (n3 e) (m3 e)]
theorem zg_bybd {t d c : Nat} (ht : t < 4) (hd : d ≤ 12) {x1 x2 : Int64} {x3 x4 x5 : Int32} (h : zs_sz (d + 1) x1 x2 x3) (hc : c < 42) (hi : zs_in x1 c = true) : -300 ≤ (q_by (nI t) (q_m (nI t) d) (nI c) x1 x2 x3 x4 x5).toInt ∧ (q_by (nI t) (q_m (nI t) d) (nI c) x1 x2 x3 x4 x5).toInt ≤ 300 := by
  obtain ⟨n1, n2, n3⟩ := zs_szN h hc hi
  have ih := zg_bd ht d (by omega)
  have k := zg_by (vtr := nI t) (rec := q_m (nI t) d) (c := c) (x1 := x1) (x2 := x2) (x3 := x3) (x4 := x4) (x5 := x5) (B := 20 * (d : Int)) ⟨by omega, by omega⟩ hc (h.2.2.2.imp (fun q => q.1) (fun ⟨l, hl, q, _⟩ => ⟨l, hl, q⟩)) (fun e a b => ih _ _ _ _ _ (n1 e)) (fun e a b => ih _ _ _ _ _ (n3 e)) (fun e a b => ih _ _ _ _ _ (n2 e))
  omega
theorem zm_worth (x g : Int32) : j_X3_worthTo x g = j_X2_worth x g := by
  unfold j_X3_worthTo j_X3_worth j_X2_worth j_X3_isMildew j_X2_isMildew
  by_cases h : x < 40
  · simp [h]
  · by_cases k : g = 0
    · simp [h, k]
    · simp [h, k]
theorem zm_par (y : Int32) : (y &&& 1 = 0 ∧ ¬ y &&& 1 = 1) ∨ (¬ y &&& 1 = 0 ∧ y &&& 1 = 1) := by
  obtain ⟨j, hj, e⟩ := pk_andE y (m := 1) 1 (by decide)
  rw [e]
  have : j = 0 ∨ j = 1 := by omega
  rcases this with h | h
  · subst h; exact Or.inl (by decide)
  · subst h; exact Or.inr (by decide)
theorem zm_tw {α : Type} (F : Int32 → α) (l c g w : Int32) : (if (w >>> (g &&& 31)) &&& 1 = 1 then F ((j_X3_worthTo l 1) + (j_X3_worthTo c 1)) else F ((j_X3_worthTo l 0) + (j_X3_worthTo c 0))) = F (j_X1_trickWorth l c g w) := by
  unfold j_X1_trickWorth
  rcases zm_par (w >>> (g &&& 31)) with ⟨h, k⟩ | ⟨h, k⟩
  · rw [if_neg k, if_pos h, zm_worth, zm_worth]
  · rw [if_pos k, if_neg h, zm_worth, zm_worth]
theorem zm_takes {t c l : Nat} (ht : t < 4) (hc : c < 42) (hl : l < 42) : j_X3_takes (nI t) (nI c) (nI l) = 0 ↔ j_X2_beats (nI c) (nI l) (nI t) = 0 := by
  unfold j_X3_takes j_X2_beats
  by_cases q : l < 40
  · rw [if_pos ((zm_mil3 l hl).mpr q), if_pos ((zs_mil l hl).mpr q)]
    by_cases u : c < 40
    · rw [if_pos ((zm_mil3 c hc).mpr u), if_pos ((zs_mil c hc).mpr u), zm_prov l hl, zm_prov c hc, zm_rem l hl, zm_rem c hc, zs_div c hc, zs_div l hl]
      by_cases v : c / 10 = l / 10
      · have v1 : nI (l / 10) = nI (c / 10) := by rw [v]
        have v2 : nI (c / 10) = nI (l / 10) := by rw [v]
        rw [if_pos v1, if_pos v2]
        by_cases w : l ≤ c
        · have w1 : nI (l % 10) ≤ nI (c % 10) := (nI_leI (by omega) (by omega)).mpr (by omega)
          have w2 : nI l ≤ nI c := (nI_leI (by omega) (by omega)).mpr w
          rw [if_pos w1, if_pos w2]
        · have w1 : ¬ nI (l % 10) ≤ nI (c % 10) := fun e => w (by have := (nI_leI (by omega) (by omega)).mp e; omega)
          have w2 : ¬ nI l ≤ nI c := fun e => w ((nI_leI (by omega) (by omega)).mp e)
          rw [if_neg w1, if_neg w2]
      · have v1 : ¬ nI (l / 10) = nI (c / 10) := fun e => v ((nI_eq (by omega) (by omega)).mp e).symm
        have v2 : ¬ nI (c / 10) = nI (l / 10) := fun e => v ((nI_eq (by omega) (by omega)).mp e)
        rw [if_neg v1, if_neg v2]
        by_cases w : c / 10 = t
        · have w1 : nI (c / 10) = nI t := by rw [w]
          rw [if_neg (fun e => (zm_trump ht hc).mp e ⟨u, w⟩), if_pos ((zm_trump ht hl).mpr (fun k => v (w.trans k.2.symm))), if_pos w1]
        · have w1 : ¬ nI (c / 10) = nI t := fun e => w ((nI_eq (by omega) (by omega)).mp e)
          rw [if_pos ((zm_trump ht hc).mpr (fun k => w k.2)), if_neg w1]
    · rw [if_neg (fun e => u ((zm_mil3 c hc).mp e)), if_neg (fun e => u ((zs_mil c hc).mp e))]
  · rw [if_neg (fun e => q ((zm_mil3 l hl).mp e))]
    by_cases u : c < 40
    · rw [if_pos ((zm_mil3 c hc).mpr u), if_pos ((zs_mil c hc).mpr u), if_neg (fun e => q ((zs_mil l hl).mp e))]
    · rw [if_neg (fun e => u ((zm_mil3 c hc).mp e)), if_neg (fun e => u ((zs_mil c hc).mp e))]
theorem zm_bhq {tab : Nat → Int32} {t a b l c m o : Nat} {w : Int32} {X Y : Int64} (ht : t < 4) (hab : a + b = 1) (hl : l < 42) (hc : c < 42)
    (T1 : j_X3_tableAt tab (nI a) (nI m) (nI o) = q_m (nI t) 12 Y (X &&& ((j_X2_bit (nI c)) ^^^ (-1))) (-1) (nI a) 0)
    (T2 : j_X3_tableAt tab (nI b) (nI o) (nI m) = q_m (nI t) 12 (X &&& ((j_X2_bit (nI c)) ^^^ (-1))) Y (-1) (nI b) 0) :
    j_X3_behind tab (nI t) (nI a) (nI l) (nI c) (nI m) (nI o) w = -(q_by (nI t) (q_m (nI t) 12) (nI c) X Y (nI l) (nI b) w) := by
  have f1 := zm_fl hab
  have f2 := zm_fl (show b + a = 1 by omega)
  unfold j_X3_behind q_by
  rw [if_neg (zs_nm1 l hl), f1, f2]
  by_cases k : j_X2_beats (nI c) (nI l) (nI t) = 0
  · rw [if_pos ((zm_takes ht hc hl).mpr k), if_pos k, zm_tw (fun x => x + j_X3_tableAt tab (nI a) (nI m) (nI o)), T1, ← Int32.neg_add, Int32.neg_neg]
  · rw [if_neg (fun e => k ((zm_takes ht hc hl).mp e)), if_neg k, zm_tw (fun x => -x - j_X3_tableAt tab (nI b) (nI o) (nI m)), T2, Int32.neg_add]
section ZM
variable {held : Nat → Int32} {cd : Nat → Nat → Nat} {nn : Nat → Nat}
/-- the table is right at one place -/
def zm_TA (cd : Nat → Nat → Nat) (nn : Nat → Nat) (t : Nat) (tab : Nat → Int32) (a b m o : Nat) : Prop := j_X3_tableAt tab (nI a) (nI m) (nI o) = q_m (nI t) 12 (zm_H cd nn a m) (zm_H cd nn b o) (-1) (nI a) 0
theorem zm_lb (hd : zm_hd held cd nn) {tab : Nat → Int32} {t a b m o k l : Nat} {w : Int32} (ht : t < 4) (hab : a + b = 1) (hm : m < 2 ^ nn a) (ho : o < 2 ^ nn b) (hk : m.testBit k = true) (hl : l < 42) : ∀ (n i : Nat) (y7 : Int32), i + n ≤ 6 →
    zt_top (fun j => (i ≤ j ∧ j < i + n) ∧ o.testBit j = true ∧ zs_fol (zm_H cd nn b o) t l (cd b j)) (fun j => -(j_X3_behind tab (nI t) (nI a) (nI l) (nI (cd b j)) (nI (m - 2 ^ k)) (nI (o - 2 ^ j)) w).toInt) (-y7.toInt) (-(j_X3_leastBy_22 held tab (nI t) (nI a) (nI m) (nI o) (nI k) w n i (nI l) y7).toInt)
  | 0, i, y7, _ => zt_nil (fun k hk => by have := hk.1; omega)
  | n + 1, i, y7, hi => by
    have ih := fun y => zm_lb hd (tab := tab) (w := w) ht hab hm ho hk hl n (i + 1) y (by omega)
    have hb : b < 2 := by omega
    have ha : a < 2 := by omega
    have m64 := zm_64 hm (hd a ha).1
    have o64 := zm_64 ho (hd b hb).1
    have hka := zm_bn hm hk
    have hk6 : k < 6 := by have := (hd a ha).1; omega
    rw [j_X3_leastBy_22]
    by_cases tb : o.testBit i = true
    · have hib := zm_bn ho tb
      have u := (hd b hb).2.1 i hib
      rw [if_pos ((zm_bit o o64 i (by omega)).mpr tb), zm_fl hab, zm_ix b hb i (by omega), u.1, (zm_drop m m64 k hk6 hk).1, (zm_drop o o64 i (by omega) tb).1]
      by_cases fo : zs_fol (zm_H cd nn b o) t l (cd b i)
      · rw [if_neg ((zm_cf hd hb ho u.2 hl ht).mpr fo)]
        by_cases c : y7 ≤ j_X3_behind tab (nI t) (nI a) (nI l) (nI (cd b i)) (nI (m - 2 ^ k)) (nI (o - 2 ^ i)) w
        · rw [if_pos c]
          have c' := Int32.le_iff_toInt_le.mp c
          refine zt_take i (ih y7) (Int.le_refl _) (Int.neg_le_neg c') (Or.inl rfl) (fun j => ⟨fun h => ?_, fun h => ?_⟩)
          · rcases Nat.lt_or_ge i j with q | q
            · exact Or.inr ⟨⟨q, by have := h.1; omega⟩, h.2⟩
            · exact Or.inl (by have := h.1; omega)
          · rcases h with h | h
            · subst h; exact ⟨⟨Nat.le_refl _, by omega⟩, tb, fo⟩
            · exact ⟨by have := h.1; omega, h.2⟩
        · rw [if_neg c]
          have c' : ¬ y7.toInt ≤ (j_X3_behind tab (nI t) (nI a) (nI l) (nI (cd b i)) (nI (m - 2 ^ k)) (nI (o - 2 ^ i)) w).toInt := fun e => c (Int32.le_iff_toInt_le.mpr e)
          refine zt_take i (ih _) (by omega) (Int.le_refl _) (Or.inr rfl) (fun j => ⟨fun h => ?_, fun h => ?_⟩)
          · rcases Nat.lt_or_ge i j with q | q
            · exact Or.inr ⟨⟨q, by have := h.1; omega⟩, h.2⟩
            · exact Or.inl (by have := h.1; omega)
          · rcases h with h | h
            · subst h; exact ⟨⟨Nat.le_refl _, by omega⟩, tb, fo⟩
            · exact ⟨by have := h.1; omega, h.2⟩
      · have z : j_X3_canFollow held (nI t) (nI b) (nI o) (nI (cd b i)) (nI l) = 0 := by
          by_cases z : j_X3_canFollow held (nI t) (nI b) (nI o) (nI (cd b i)) (nI l) = 0
          · exact z
          · exact absurd ((zm_cf hd hb ho u.2 hl ht).mp z) fo
        rw [if_pos z]
        refine zt_skip (ih y7) (fun j => ⟨fun h => ⟨⟨?_, by have := h.1; omega⟩, h.2⟩, fun h => ⟨by have := h.1; omega, h.2⟩⟩)
        rcases Nat.lt_or_ge i j with q | q
        · exact q
        · have : j = i := by have := h.1; omega
          subst this
          exact absurd h.2.2 fo
    · rw [if_neg (fun e => tb ((zm_bit o o64 i (by omega)).mp e))]
      refine zt_skip (ih y7) (fun j => ⟨fun h => ⟨⟨?_, by have := h.1; omega⟩, h.2⟩, fun h => ⟨by have := h.1; omega, h.2⟩⟩)
      rcases Nat.lt_or_ge i j with q | q
      · exact q
      · have : j = i := by have := h.1; omega
        subst this
        exact absurd h.2.1 tb
theorem zg_1000 : (1000 : Int32).toInt = 1000 := by decide
theorem zm_least (hd : zm_hd held cd nn) {tab : Nat → Int32} {t a b m o k : Nat} (w : Int32) (ht : t < 4) (hab : a + b = 1) (hm : m < 2 ^ nn a) (ho : o < 2 ^ nn b) (hp : zm_pc m = zm_pc o) (hk : m.testBit k = true)
    (hT : ∀ j, o.testBit j = true → zm_TA cd nn t tab a b (m - 2 ^ k) (o - 2 ^ j) ∧ zm_TA cd nn t tab b a (o - 2 ^ j) (m - 2 ^ k)) :
    j_X3_leastBy held tab (nI t) (nI a) (nI m) (nI o) (nI k) w = -(q_m (nI t) 11 (zm_H cd nn b o) ((zm_H cd nn a m) &&& ((j_X2_bit (nI (cd a k))) ^^^ (-1))) (nI (cd a k)) (nI b) w) := by
  have hb : b < 2 := by omega
  have ha : a < 2 := by omega
  have hka := zm_bn hm hk
  have hk6 : k < 6 := by have := (hd a ha).1; omega
  have ck := (hd a ha).2.1 k hka
  have inX : zs_in (zm_H cd nn a m) (cd a k) = true := (zm_Hin hd ha m _).mpr ⟨k, hka, hk, rfl⟩
  have sz0 := zm_sz hd ha hb hm ho hp
  have sz := (zs_szN sz0 ck.2 inX).1 rfl
  have Hd := zm_Hdrop hd ha hm hk
  have X0 : ¬ zm_H cd nn b o = 0 := by
    intro e
    have := (zm_Hnil hd hb ho).mp e
    have := (zm_drop m (zm_64 hm (hd a ha).1) k hk6 hk).2.2
    omega
  have bh : ∀ j, o.testBit j = true → (j_X3_behind tab (nI t) (nI a) (nI (cd a k)) (nI (cd b j)) (nI (m - 2 ^ k)) (nI (o - 2 ^ j)) w) = -(q_by (nI t) (q_m (nI t) 10) (nI (cd b j)) (zm_H cd nn b o) ((zm_H cd nn a m) &&& ((j_X2_bit (nI (cd a k))) ^^^ (-1))) (nI (cd a k)) (nI b) w) ∧ zs_in (zm_H cd nn b o) (cd b j) = true ∧ cd b j < 42 := by
    intro j tj
    have hjb := zm_bn ho tj
    have cj := (hd b hb).2.1 j hjb
    have inY : zs_in (zm_H cd nn b o) (cd b j) = true := (zm_Hin hd hb o _).mpr ⟨j, hjb, tj, rfl⟩
    obtain ⟨T1, T2⟩ := hT j tj
    unfold zm_TA at T1 T2
    rw [zm_Hdrop hd hb ho tj, Hd] at T1 T2
    refine ⟨?_, inY, cj.2⟩
    rw [zm_bhq (X := zm_H cd nn b o) (Y := (zm_H cd nn a m) &&& ((j_X2_bit (nI (cd a k))) ^^^ (-1))) ht hab ck.2 cj.2 T1 T2, zg_byd (d := 12) (d' := 10) (zs_mono sz (by decide)) sz cj.2 inY]
  have T := zt_qmax (nI t) (q_m (nI t) 10) (zm_H cd nn b o) ((zm_H cd nn a m) &&& ((j_X2_bit (nI (cd a k))) ^^^ (-1))) (nI (cd a k)) (nI b) w 42 0 (-1000)
  have S := zm_lb hd (tab := tab) (w := w) ht hab hm ho hk ck.2 6 0 1000 (by decide)
  rw [zg_m1000] at T
  rw [zg_1000] at S
  have bd := zg_bd ht 11 (by decide) _ _ (nI (cd a k)) (nI b) w sz
  have qe : q_m (nI t) 11 (zm_H cd nn b o) ((zm_H cd nn a m) &&& ((j_X2_bit (nI (cd a k))) ^^^ (-1))) (nI (cd a k)) (nI b) w = q_max (nI t) (q_m (nI t) 10) (zm_H cd nn b o) ((zm_H cd nn a m) &&& ((j_X2_bit (nI (cd a k))) ^^^ (-1))) (nI (cd a k)) (nI b) w 42 0 (-1000) := by
    show (if lg_cmp (zm_H cd nn b o) 0 = 0 then (0 : Int32) else _) = _
    rw [if_neg (fun e => X0 ((lg_cmp_eq _ 0).mp e))]
  have key : -(j_X3_leastBy_22 held tab (nI t) (nI a) (nI m) (nI o) (nI k) w 6 0 (nI (cd a k)) 1000).toInt = (q_m (nI t) 11 (zm_H cd nn b o) ((zm_H cd nn a m) &&& ((j_X2_bit (nI (cd a k))) ^^^ (-1))) (nI (cd a k)) (nI b) w).toInt := by
    rw [qe]
    refine zt_one S T ?_ ?_
    · rintro j ⟨_, tj, fo⟩
      obtain ⟨e, i1, i2⟩ := bh j tj
      have bb := zg_bybd (d := 10) (x4 := nI b) (x5 := w) ht (by decide) sz i2 i1
      refine ⟨cd b j, ⟨by omega, (zs_mayF i2 ck.2 ht).mpr ⟨i1, fo⟩⟩, ?_⟩
      show _ = -(j_X3_behind tab (nI t) (nI a) (nI (cd a k)) (nI (cd b j)) (nI (m - 2 ^ k)) (nI (o - 2 ^ j)) w).toInt
      rw [e, fb_negI (by omega), Int.neg_neg]
    · rintro c ⟨hc, may⟩
      obtain ⟨i1, fo⟩ := (zs_mayF (by omega) ck.2 ht).mp may
      obtain ⟨j, hj, tj, ej⟩ := (zm_Hin hd hb o c).mp i1
      subst ej
      obtain ⟨e, i1, i2⟩ := bh j tj
      have bb := zg_bybd (d := 10) (x4 := nI b) (x5 := w) ht (by decide) sz i2 i1
      refine ⟨j, ⟨by have := (hd b hb).1; omega, tj, fo⟩, ?_⟩
      show -(j_X3_behind tab (nI t) (nI a) (nI (cd a k)) (nI (cd b j)) (nI (m - 2 ^ k)) (nI (o - 2 ^ j)) w).toInt = _
      rw [e, fb_negI (by omega), Int.neg_neg]
  have ex : j_X3_leastBy held tab (nI t) (nI a) (nI m) (nI o) (nI k) w = j_X3_leastBy_22 held tab (nI t) (nI a) (nI m) (nI o) (nI k) w 6 0 (nI (cd a k)) 1000 := by
    unfold j_X3_leastBy
    rw [zm_ix a ha k hk6, ck.1]
  rw [ex]
  apply Int32.toInt_inj.mp
  rw [fb_negI (by omega)]
  omega
theorem zm_mo0 {tab : Nat → Int32} {vt x0 x2 x3 : Int32} : ∀ (n i : Nat) (y : Int32), i + n ≤ 6 → j_X3_mostOf_8 held tab vt x0 0 x2 x3 n i y = 0
  | 0, i, y, _ => by
    show (if (0 : Int32) = 0 then 0 else y) = 0
    rw [if_pos rfl]
  | n + 1, i, y, hi => by
    rw [j_X3_mostOf_8]
    have e : ¬ (((0 : Int32) >>> ((nI i) &&& 31)) &&& 1 = 1) := fun k => by
      have := (zm_bit 0 (by decide) i (by omega)).mp k
      simp at this
    rw [if_neg e]
    exact zm_mo0 n (i + 1) y (by omega)
theorem zm_mo (hd : zm_hd held cd nn) {tab : Nat → Int32} {t a m : Nat} {x2 w : Int32} (ha : a < 2) (hm : m < 2 ^ nn a) (m0 : ¬ m = 0) : ∀ (n i : Nat) (y : Int32), i + n ≤ 6 →
    zt_top (fun k => (i ≤ k ∧ k < i + n) ∧ m.testBit k = true ∧ zs_lead (zm_H cd nn a m) (cd a k)) (fun k => (j_X3_leastBy held tab (nI t) (nI a) (nI m) x2 (nI k) w).toInt) y.toInt (j_X3_mostOf_8 held tab (nI t) (nI a) (nI m) x2 w n i y).toInt
  | 0, i, y, _ => by
    have e : ¬ nI m = 0 := fun e => m0 ((nI_eq (a := m) (b := 0) (by have := zm_64 hm (hd a ha).1; omega) (by decide)).mp e)
    show zt_top _ _ _ (if nI m = 0 then 0 else y).toInt
    rw [if_neg e]
    exact zt_nil (fun k hk => by have := hk.1; omega)
  | n + 1, i, y, hi => by
    have ih := fun y => zm_mo hd (tab := tab) (t := t) (x2 := x2) (w := w) ha hm m0 n (i + 1) y (by omega)
    have m64 := zm_64 hm (hd a ha).1
    rw [j_X3_mostOf_8]
    by_cases tb : m.testBit i = true
    · have hib := zm_bn hm tb
      have u := (hd a ha).2.1 i hib
      rw [if_pos ((zm_bit m m64 i (by omega)).mpr tb), zm_ix a ha i (by omega), u.1]
      by_cases le : zs_lead (zm_H cd nn a m) (cd a i)
      · rw [if_neg ((zm_cl hd ha hm u.2).mpr le)]
        by_cases c : j_X3_leastBy held tab (nI t) (nI a) (nI m) x2 (nI i) w ≤ y
        · rw [if_pos c]
          have c' := Int32.le_iff_toInt_le.mp c
          refine zt_take i (ih y) (Int.le_refl _) c' (Or.inl rfl) (fun j => ⟨fun h => ?_, fun h => ?_⟩)
          · rcases Nat.lt_or_ge i j with q | q
            · exact Or.inr ⟨⟨q, by have := h.1; omega⟩, h.2⟩
            · exact Or.inl (by have := h.1; omega)
          · rcases h with h | h
            · subst h; exact ⟨⟨Nat.le_refl _, by omega⟩, tb, le⟩
            · exact ⟨by have := h.1; omega, h.2⟩
        · rw [if_neg c]
          have c' : ¬ (j_X3_leastBy held tab (nI t) (nI a) (nI m) x2 (nI i) w).toInt ≤ y.toInt := fun e => c (Int32.le_iff_toInt_le.mpr e)
          refine zt_take i (ih _) (by omega) (Int.le_refl _) (Or.inr rfl) (fun j => ⟨fun h => ?_, fun h => ?_⟩)
          · rcases Nat.lt_or_ge i j with q | q
            · exact Or.inr ⟨⟨q, by have := h.1; omega⟩, h.2⟩
            · exact Or.inl (by have := h.1; omega)
          · rcases h with h | h
            · subst h; exact ⟨⟨Nat.le_refl _, by omega⟩, tb, le⟩
            · exact ⟨by have := h.1; omega, h.2⟩
      · have z : j_X3_canLead held (nI a) (nI m) (nI (cd a i)) = 0 := by
          by_cases z : j_X3_canLead held (nI a) (nI m) (nI (cd a i)) = 0
          · exact z
          · exact absurd ((zm_cl hd ha hm u.2).mp z) le
        rw [if_pos z]
        refine zt_skip (ih y) (fun j => ⟨fun h => ⟨⟨?_, by have := h.1; omega⟩, h.2⟩, fun h => ⟨by have := h.1; omega, h.2⟩⟩)
        rcases Nat.lt_or_ge i j with q | q
        · exact q
        · have : j = i := by have := h.1; omega
          subst this
          exact absurd h.2.2 le
    · rw [if_neg (fun e => tb ((zm_bit m m64 i (by omega)).mp e))]
      refine zt_skip (ih y) (fun j => ⟨fun h => ⟨⟨?_, by have := h.1; omega⟩, h.2⟩, fun h => ⟨by have := h.1; omega, h.2⟩⟩)
      rcases Nat.lt_or_ge i j with q | q
      · exact q
      · have : j = i := by have := h.1; omega
        subst this
        exact absurd h.2.1 tb
theorem zm_most (hd : zm_hd held cd nn) {tab : Nat → Int32} {t a b m o : Nat} (ht : t < 4) (hab : a + b = 1) (hm : m < 2 ^ nn a) (ho : o < 2 ^ nn b) (hp : zm_pc m = zm_pc o)
    (hT : ∀ k, m.testBit k = true → ∀ j, o.testBit j = true → zm_TA cd nn t tab a b (m - 2 ^ k) (o - 2 ^ j) ∧ zm_TA cd nn t tab b a (o - 2 ^ j) (m - 2 ^ k)) :
    j_X3_mostOf held tab (nI t) (nI a) (nI m) (nI o) 0 = q_m (nI t) 12 (zm_H cd nn a m) (zm_H cd nn b o) (-1) (nI a) 0 := by
  have hb : b < 2 := by omega
  have ha : a < 2 := by omega
  have sz := zm_sz hd ha hb hm ho hp
  by_cases m0 : m = 0
  · subst m0
    have e1 : j_X3_mostOf held tab (nI t) (nI a) (nI 0) (nI o) 0 = 0 := zm_mo0 6 0 (-1000) (by decide)
    have e2 : zm_H cd nn a 0 = 0 := (zm_Hnil hd ha hm).mpr (by decide)
    rw [e1]
    show 0 = (if lg_cmp (zm_H cd nn a 0) 0 = 0 then (0 : Int32) else _)
    rw [if_pos ((lg_cmp_eq _ 0).mpr e2)]
  · have X0 : ¬ zm_H cd nn a m = 0 := by
      intro e
      have z := (zm_Hnil hd ha hm).mp e
      have m64 := zm_64 hm (hd a ha).1
      have : ∀ m, m < 64 → zm_pc m = 0 → m = 0 := by decide +kernel
      exact m0 (this m m64 z)
    have T := zt_qmax (nI t) (q_m (nI t) 11) (zm_H cd nn a m) (zm_H cd nn b o) (-1) (nI a) 0 42 0 (-1000)
    have S := zm_mo hd (tab := tab) (t := t) (x2 := nI o) (w := 0) ha hm m0 6 0 (-1000) (by decide)
    have qe : q_m (nI t) 12 (zm_H cd nn a m) (zm_H cd nn b o) (-1) (nI a) 0 = q_max (nI t) (q_m (nI t) 11) (zm_H cd nn a m) (zm_H cd nn b o) (-1) (nI a) 0 42 0 (-1000) := by
      show (if lg_cmp (zm_H cd nn a m) 0 = 0 then (0 : Int32) else _) = _
      rw [if_neg (fun e => X0 ((lg_cmp_eq _ 0).mp e))]
    have lq : ∀ k, m.testBit k = true → j_X3_leastBy held tab (nI t) (nI a) (nI m) (nI o) (nI k) 0 = q_by (nI t) (q_m (nI t) 11) (nI (cd a k)) (zm_H cd nn a m) (zm_H cd nn b o) (-1) (nI a) 0 := by
      intro k tk
      rw [zm_least hd 0 ht hab hm ho hp tk (hT k tk)]
      unfold q_by
      rw [if_pos rfl, zm_fl hab]
    rw [qe]
    apply Int32.toInt_inj.mp
    refine zt_one S T ?_ ?_
    · rintro k ⟨_, tk, le⟩
      have hka := zm_bn hm tk
      have ck := (hd a ha).2.1 k hka
      have inX : zs_in (zm_H cd nn a m) (cd a k) = true := (zm_Hin hd ha m _).mpr ⟨k, hka, tk, rfl⟩
      refine ⟨cd a k, ⟨by omega, (zs_mayL ck.2).mpr ⟨inX, le⟩⟩, ?_⟩
      show _ = (j_X3_leastBy held tab (nI t) (nI a) (nI m) (nI o) (nI k) 0).toInt
      rw [lq k tk]
    · rintro c ⟨hc, may⟩
      obtain ⟨i1, le⟩ := (zs_mayL (by omega)).mp may
      obtain ⟨k, hk, tk, ek⟩ := (zm_Hin hd ha m c).mp i1
      subst ek
      refine ⟨k, ⟨by have := (hd a ha).1; omega, tk, le⟩, ?_⟩
      show (j_X3_leastBy held tab (nI t) (nI a) (nI m) (nI o) (nI k) 0).toInt = _
      rw [lq k tk]
end ZM
