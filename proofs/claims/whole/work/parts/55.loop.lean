/-! THE LAW'S LOOP -/
set_option maxRecDepth 100000 in
theorem zy_loop {p : Program} {l : Launch} {e : Env} {s : State} {m : MethodId} {below : List Frame} {meth : Method} {c : Code} {b L : Nat} {xs : Nat → Int32} {D : va_G} {a0 aR aF aG : Nat} {cI : ClassId} {aO : Nat} {cL : ClassId} {b0 bP bR bS bT bG bW bH bO : Nat} {cP cR cS cT cG cW cH cO : ClassId} {Q : State → Prop}
    (X : zyX l p s m c b L xs D (fun q : Nat => s.heap.size ≤ q) cI cL cP cR cS cT cG cW cH cO)
    (fin : ∀ (H : Heap) (ls : Array Slot), W p l e room_1 s m #[Value.ref b] below meth c H [] 601024 7293034 Q (F0 m 951 ls [])) :
    ∀ (n j : Nat) (H : Heap) (locs : List Loc) (cells slots : Nat) (ls : Array Slot), L ≤ 3 * j + 3 * n + 2 → j ≤ 512 → cells ≤ 100 + 2 * j → slots ≤ 100000 + 8196 * j → zyI D (fun q : Nat => s.heap.size ≤ q) s a0 aR aF aG cI aO cL b0 bP bR bS bT bG bW bH bO cP cR cS cT cG cW cH cO H → va_S (fun q : Nat => s.heap.size ≤ q) s.heap H locs → lv_has ls 7 [(4, .int (nI (3 * j))), (3, .ref aO), (2, .ref b0), (1, .ref a0), (0, .ref b)] → W p l e room_1 s m #[Value.ref b] below meth c H locs cells slots Q (F0 m 23 ls []) := by
  obtain ⟨S, hN, hX, hY, hst, hXs, hbl, hbA, hA, hKC, hKM, hLL⟩ := id X
  obtain ⟨hx, hb, hml, hown, hts⟩ := id S
  intro n
  induction n with
  | zero =>
    intro j H locs cells slots ls hn hj hc1 hs1 hI hS hl
    refine lv_iload hx hb dL_law_23 (lv_at hl 0 rfl) ?_
    refine lv_aload_n hx hb dL_law_25 rfl (lv_at hl 4 rfl) ?_
    refine va_slen hx hb hXs hbl hbA hS dL_law_26 ?_
    refine lv_iconst (v := 3) hx hb dL_law_27 (by decide) ?_
    refine lv_isub hx hb dL_law_28 ?_
    have lt : nI L - nI 3 < nI (3 * j) := by
      rw [Int32.lt_iff_toInt_lt, pk_sub_toInt (by omega) (by decide), nI_toInt (by omega)]
      omega
    refine lv_icmp_gt (tgt := 951) hx hb dL_law_29 (by decide) (fun _ => ?_) (fun f => absurd lt f)
    exact va_forget hS.2.2 (W.widen (k := 601024) (n := 7293034) (by omega) (by omega) (fin H ls))
  | succ n ih =>
    intro j H locs cells slots ls hn hj hc1 hs1 hI hS hl
    refine lv_iload hx hb dL_law_23 (lv_at hl 0 rfl) ?_
    refine lv_aload_n hx hb dL_law_25 rfl (lv_at hl 4 rfl) ?_
    refine va_slen hx hb hXs hbl hbA hS dL_law_26 ?_
    refine lv_iconst (v := 3) hx hb dL_law_27 (by decide) ?_
    refine lv_isub hx hb dL_law_28 ?_
    refine lv_icmp_gt (tgt := 951) hx hb dL_law_29 (by decide) (fun _ => ?_) (fun f => ?_)
    · exact va_forget hS.2.2 (W.widen (k := 601024) (n := 7293034) (by omega) (by omega) (fin H ls))
    · have hi : 3 * j + 2 < L := by
        have f' : ¬ (nI L - nI 3 < nI (3 * j)) := f
        rw [Int32.lt_iff_toInt_lt, pk_sub_toInt (by omega) (by decide), nI_toInt (by omega)] at f'
        omega
      refine lv_aload_n hx hb dL_law_32 rfl (lv_at hl 4 rfl) ?_
      refine lv_iload hx hb dL_law_33 (lv_at hl 0 rfl) ?_
      refine va_sld hx hb hXs hbl hbA hS (i := nI (3 * j)) (vp_in_nI (by omega) (by omega)) dL_law_35 ?_
      rw [nI_clamp (show 3 * j < 2 ^ 31 by omega)]
      refine lv_bipush (v := 31) hx hb dL_law_36 (by decide) ?_
      refine lv_iand hx hb dL_law_38 ?_
      have hro : cells + 2 ≤ 601024 ∧ slots + 8196 ≤ 7293034 := ⟨by omega, by omega⟩
      have next : ∀ (H1 : Heap) (locs1 : List Loc) (ls1 : Array Slot) (k1 k2 : Nat), k1 ≤ cells + 2 → k2 ≤ slots + 8196 → zyI D (fun q : Nat => s.heap.size ≤ q) s a0 aR aF aG cI aO cL b0 bP bR bS bT bG bW bH bO cP cR cS cT cG cW cH cO H1 → va_S (fun q : Nat => s.heap.size ≤ q) s.heap H1 locs1 → lv_has ls1 7 [(4, .int (nI (3 * j))), (3, .ref aO), (2, .ref b0), (1, .ref a0), (0, .ref b)] → W p l e room_1 s m #[Value.ref b] below meth c H1 locs1 k1 k2 Q (F0 m 945 ls1 []) := by
        intro H1 locs1 ls1 k1 k2 hk1 hk2 hI1 hS1 hl1
        refine lv_iinc (v := nI (3 * (j + 1))) (lv' := [(4, .int (nI (3 * (j + 1)))), (3, .ref aO), (2, .ref b0), (1, .ref a0), (0, .ref b)]) hx hb dL_law_945 hl1 (k := 0) rfl (nI_add (3 * j) 3) (by decide) rfl (fun ls2 hl2 => ?_)
        refine lv_goto (tgt := 23) hx hb dL_law_948 (by decide) ?_
        have q1 : L ≤ 3 * (j + 1) + 3 * n + 2 := by omega
        have q2 : j + 1 ≤ 512 := by omega
        have q3 : k1 ≤ 100 + 2 * (j + 1) := by omega
        have q4 : k2 ≤ 100000 + 8196 * (j + 1) := by omega
        exact ih (j + 1) H1 locs1 k1 k2 ls2 q1 q2 q3 q4 hI1 hS1 hl2
      have kk : ∀ (H1 : Heap) (locs1 : List Loc) (ls1 : Array Slot), zyI D (fun q : Nat => s.heap.size ≤ q) s a0 aR aF aG cI aO cL b0 bP bR bS bT bG bW bH bO cP cR cS cT cG cW cH cO H1 → va_S (fun q : Nat => s.heap.size ≤ q) s.heap H1 locs1 → lv_has ls1 7 [(4, .int (nI (3 * j))), (3, .ref aO), (2, .ref b0), (1, .ref a0), (0, .ref b)] → W p l e room_1 s m #[Value.ref b] below meth c H1 locs1 (cells + 2) (slots + 8196) Q (F0 m 945 ls1 []) := fun H1 locs1 ls1 h1 h2 h3 => next H1 locs1 ls1 _ _ (Nat.le_refl _) (Nat.le_refl _) h1 h2 h3
      obtain ⟨v, hv, ev⟩ := pk_andE (xs (3 * j)) (m := 31) 5 (by decide)
      rw [ev]
      have hv32 : v < 32 := hv
      have cases : v = 0 ∨ v = 1 ∨ v = 2 ∨ v = 3 ∨ v = 4 ∨ v = 5 ∨ v = 6 ∨ v = 7 ∨ v = 8 ∨ v = 9 ∨ v = 10 ∨ v = 11 ∨ v = 12 ∨ v = 13 ∨ v = 14 ∨ v = 15 ∨ v = 16 ∨ v = 17 ∨ v = 18 ∨ v = 19 ∨ v = 20 ∨ 20 < v := by omega
      rcases cases with hv0 | hv0 | hv0 | hv0 | hv0 | hv0 | hv0 | hv0 | hv0 | hv0 | hv0 | hv0 | hv0 | hv0 | hv0 | hv0 | hv0 | hv0 | hv0 | hv0 | hv0 | hv0
      · subst hv0
        exact lv_tableIn (tgt := 136) hx hb dL_law_39 (by decide) (by decide) (off := 97) (by decide) (by decide) (zy_c0 X hI hS hi hl hro kk)
      · subst hv0
        exact lv_tableIn (tgt := 193) hx hb dL_law_39 (by decide) (by decide) (off := 154) (by decide) (by decide) (zy_c1 X hI hS hi hl hro kk)
      · subst hv0
        exact lv_tableIn (tgt := 249) hx hb dL_law_39 (by decide) (by decide) (off := 210) (by decide) (by decide) (zy_c2 X hI hS hi hl hro kk)
      · subst hv0
        exact lv_tableIn (tgt := 293) hx hb dL_law_39 (by decide) (by decide) (off := 254) (by decide) (by decide) (zy_c3 X hI hS hi hl hro kk)
      · subst hv0
        exact lv_tableIn (tgt := 349) hx hb dL_law_39 (by decide) (by decide) (off := 310) (by decide) (by decide) (zy_c4 X hI hS hi hl hro kk)
      · subst hv0
        exact lv_tableIn (tgt := 362) hx hb dL_law_39 (by decide) (by decide) (off := 323) (by decide) (by decide) (zy_c5 X hI hS hi hl hro kk)
      · subst hv0
        exact lv_tableIn (tgt := 375) hx hb dL_law_39 (by decide) (by decide) (off := 336) (by decide) (by decide) (zy_c6 X hI hS hi hl hro kk)
      · subst hv0
        exact lv_tableIn (tgt := 388) hx hb dL_law_39 (by decide) (by decide) (off := 349) (by decide) (by decide) (zy_c7 X hI hS hi hl hro kk)
      · subst hv0
        exact lv_tableIn (tgt := 401) hx hb dL_law_39 (by decide) (by decide) (off := 362) (by decide) (by decide) (zy_c8 X hI hS hi hl hro kk)
      · subst hv0
        exact lv_tableIn (tgt := 414) hx hb dL_law_39 (by decide) (by decide) (off := 375) (by decide) (by decide) (zy_c9 X hI hS hi hl hro kk)
      · subst hv0
        exact lv_tableIn (tgt := 470) hx hb dL_law_39 (by decide) (by decide) (off := 431) (by decide) (by decide) (zy_c10 X hI hS hi hl hro kk)
      · subst hv0
        exact lv_tableIn (tgt := 538) hx hb dL_law_39 (by decide) (by decide) (off := 499) (by decide) (by decide) (zy_c11 X hI hS hi hl hro kk)
      · subst hv0
        exact lv_tableIn (tgt := 594) hx hb dL_law_39 (by decide) (by decide) (off := 555) (by decide) (by decide) (zy_c12 X hI hS hi hl hro kk)
      · subst hv0
        exact lv_tableIn (tgt := 650) hx hb dL_law_39 (by decide) (by decide) (off := 611) (by decide) (by decide) (zy_c13 X hI hS hi hl hro kk)
      · subst hv0
        exact lv_tableIn (tgt := 706) hx hb dL_law_39 (by decide) (by decide) (off := 667) (by decide) (by decide) (zy_c14 X hI hS hi hl hro kk)
      · subst hv0
        exact lv_tableIn (tgt := 762) hx hb dL_law_39 (by decide) (by decide) (off := 723) (by decide) (by decide) (zy_c15 X hI hS hi hl hro kk)
      · subst hv0
        exact lv_tableIn (tgt := 775) hx hb dL_law_39 (by decide) (by decide) (off := 736) (by decide) (by decide) (zy_c16 X hI hS hi hl hro kk)
      · subst hv0
        exact lv_tableIn (tgt := 831) hx hb dL_law_39 (by decide) (by decide) (off := 792) (by decide) (by decide) (zy_c17 X hI hS hi hl hro kk)
      · subst hv0
        exact lv_tableIn (tgt := 875) hx hb dL_law_39 (by decide) (by decide) (off := 836) (by decide) (by decide) (zy_c18 X hI hS hi hl hro kk)
      · subst hv0
        exact lv_tableIn (tgt := 919) hx hb dL_law_39 (by decide) (by decide) (off := 880) (by decide) (by decide) (zy_c19 X hI hS hi hl hro kk)
      · subst hv0
        exact lv_tableIn (tgt := 932) hx hb dL_law_39 (by decide) (by decide) (off := 893) (by decide) (by decide) (zy_c20 X hI hS hi hl hro kk)
      · exact lv_tableOut (tgt := 945) hx hb dL_law_39 (Or.inr (by rw [nI_toInt (by omega)]; omega)) (by decide) (next H locs ls cells slots (by omega) (by omega) hI hS hl)
