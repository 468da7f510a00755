/-! P24: THE LAW'S BODY (laid by wip/p24/lawmain.py) -/
def pz_X (l : Launch) (p : Program) (s : State) (m : MethodId) (c : Code) (b L : Nat) (xs : Nat → Int32) (D : va_G) (A : Nat → Prop) (cI : ClassId) : Prop :=
  CallFix p m c cL_law 19 s #[Value.ref b] wsL_law RL ∧ jN s ∧ va_X b L xs s s.heap ∧ b < s.heap.size ∧ ¬ A b ∧ (∀ q : Nat, s.heap.size ≤ q → A q) ∧ va_K D vwCl [(cI, .int)] s ∧ L ≤ 260
theorem pz_arch {a : Nat} (ha : a < 2) : ¬ j_X2_isArchivist (nI a) = 0 := by
  have : ∀ a, a < 2 → ¬ j_X2_isArchivist (nI a) = 0 := by decide
  exact this a ha
theorem pz_tr (x : Int32) : j_X2_trumps x = x := rfl
theorem pd_big : (1073741824 : Int32) = nI 1073741824 := by decide +kernel
section PZ
variable {p : Program} {l : Launch} {e : Env} {s : State} {m : MethodId} {below : List Frame} {meth : Method} {c : Code} {H : Heap} {locs : List Loc} {Q : State → Prop} {ls : Array Slot}
variable {b L : Nat} {xs : Nat → Int32} {D : va_G} {A : Nat → Prop} {cI : ClassId} {a0 aR aF aG : Nat}
variable {vrow : Nat → Int32} {vdrawn vtr vled vmov vw1 vw2 : Int32} {veo : Option Nat} {veb : Int32} {vh1 vt1 : Int64} {vp1 vk1 vg1 : Int32} {vh2 vt2 : Int64} {vp2 vk2 vg2 : Int32} {sp f g : Int32} {n dd a a' : Nat} {up : Nat → Int32}
set_option maxRecDepth 100000 in
set_option maxHeartbeats 8000000 in
theorem pz_pick (X : pz_X l p s m c b L xs D A cI) {E r : Nat} (hV : pq_V vdrawn vtr vled vmov vh1 vt1 vp1 vk1 vh2 vt2 vp2 vk2 sp up E) (hab : a + a' = 1) (hm : vmov = nI a) (hr : r < 60) (hP : va_P D vwCl (jC a0 aR aF aG cI vrow vdrawn vtr vled vmov vw1 vw2 veo veb vh1 vt1 vp1 vk1 vg1 vh2 vt2 vp2 vk2 vg2) H) (hD : va_D A (jC a0 aR aF aG cI vrow vdrawn vtr vled vmov vw1 vw2 veo veb vh1 vt1 vp1 vk1 vg1 vh2 vt2 vp2 vk2 vg2)) (hS : va_S A s.heap H locs) (hl : lv_has ls 19 [(9, .int (nI r)), (8, .int (nI a)), (7, .int sp), (5, .int (nI dd)), (4, .int 1), (2, .int f), (3, .int g), (1, .ref a0), (0, .ref b)])
    (kk : ∀ (d : Nat) (ls : Array Slot), d < 42 → up d = nI a → j_X2_reasonAgainst vdrawn vtr vled vmov vh1 vh2 (nI d) = 0 → lv_has ls 19 [(11, .int (nI d)), (8, .int (nI a)), (7, .int sp), (5, .int (nI dd)), (4, .int 1), (2, .int f), (3, .int g), (1, .ref a0), (0, .ref b)] → W p l e room_1 s m #[Value.ref b] below meth c H locs 190 1523 Q (F0 m 259 ls [])) : W p l e room_1 s m #[Value.ref b] below meth c H locs 190 1523 Q (F0 m 193 ls []) := by
  obtain ⟨S, hN, hXs, hbl, hbA, hA, hK, hL260⟩ := id X
  obtain ⟨hx, hb, hml, hown, hts⟩ := id S
  obtain ⟨hpl, lo, ⟨g1, g2⟩, htr, ⟨n06, n16⟩, ⟨hE, hdr, hn2⟩, _, _, hmv⟩ := id hV
  have ha : a < 2 := by omega
  have hAa := pz_arch ha
  have eA : j_X2_cards vh1 vh2 (nI a) = nI (zl_nn up a) := pq_ca ha g1 g2
  have hna : zl_nn up a ≤ 6 := by
    have : a = 0 ∨ a = 1 := by omega
    rcases this with e | e
    · subst e; exact n06
    · subst e; exact n16
  have hn1 : 1 ≤ zl_nn up a := by
    rcases hmv with ⟨m1, _⟩ | ⟨a', b', _, m1, _, h1, _⟩
    · exact absurd (hm.symm.trans m1) (zs_nm1 a (by omega))
    · have : a' = a := (nI_eq (by omega) (by omega)).mp (m1.symm.trans hm)
      rw [← this]; exact h1
  have cat : ∀ c, c < 42 → zl_p up a c = true → (fun j => (j_X2_cardAt vh1 vh2 (nI a) (nI j)).toNatClampNeg) (fb_ct (zl_p up a) c) = c := fun c hc h => by
    show (j_X2_cardAt vh1 vh2 (nI a) (nI (fb_ct (zl_p up a) c))).toNatClampNeg = c
    rw [pq_at ha g1 g2 hc (of_decide_eq_true h), nI_clamp (by omega)]
  have hAL : fb_ct (fun j => decide (j_X2_reasonAgainst vdrawn vtr vled (nI a) vh1 vh2 (nI (j_X2_cardAt vh1 vh2 (nI a) (nI j)).toNatClampNeg) = 0)) (zl_nn up a) = pq_AL vdrawn vtr vled vh1 vh2 up a := pq_over (q := fun c => decide (j_X2_reasonAgainst vdrawn vtr vled (nI a) vh1 vh2 (nI c) = 0)) cat 42 (Nat.le_refl _)
  have cch : j_X2_choices vdrawn vtr vled vmov vh1 vh2 = nI (pq_AL vdrawn vtr vled vh1 vh2 up a) := by rw [hm, pq_choices ha g1 g2]
  have cle := pq_AL_le vdrawn vtr vled vh1 vh2 up a
  have cpos := pq_some (vdrawn := vdrawn) (vtr := vtr) ha g1 g2 lo hE hdr htr hn1
  have hne0 : ¬ nI (pq_AL vdrawn vtr vled vh1 vh2 up a) = 0 := nI_ne0 cpos (by omega)
  obtain ⟨q0, hq0, erem⟩ : ∃ q0, q0 < pq_AL vdrawn vtr vled vh1 vh2 up a ∧ (nI r) - (nI r) / (nI (pq_AL vdrawn vtr vled vh1 vh2 up a)) * (nI (pq_AL vdrawn vtr vled vh1 vh2 up a)) = nI q0 := ⟨r % pq_AL vdrawn vtr vled vh1 vh2 up a, Nat.mod_lt _ cpos, pk_rem (by omega) cpos (by omega)⟩
  have lp : ∀ (n k q : Nat) (x : Int32), k + n = zl_nn up a → q + fb_ct (fun j => decide (j_X2_reasonAgainst vdrawn vtr vled (nI a) vh1 vh2 (nI (j_X2_cardAt vh1 vh2 (nI a) (nI j)).toNatClampNeg) = 0)) k = q0 → ∀ (ls : Array Slot), lv_has ls 19 [(10, .int (nI q)), (11, .int x), (12, .int (nI k)), (8, .int (nI a)), (7, .int sp), (5, .int (nI dd)), (4, .int 1), (2, .int f), (3, .int g), (1, .ref a0), (0, .ref b)] → W p l e room_1 s m #[Value.ref b] below meth c H locs 190 1523 Q (F0 m 208 ls []) := by
    intro n
    induction n with
    | zero =>
      intro k q x hkn hq ls hl
      exfalso
      have ek : k = zl_nn up a := by omega
      rw [ek, hAL] at hq
      omega
    | succ n ih =>
      intro k q x hkn hq ls hl
      obtain ⟨d, hd, ud, ed, cd⟩ := pq_kth (vh1 := vh1) (vh2 := vh2) ha g1 g2 (show k < zl_nn up a by omega)
      have hcd : ¬ j_X2_isCard (nI d) = 0 := by rw [zr_isCard hd]; decide
      have hne : ¬ j_X2_cardAt vh1 vh2 (nI a) (nI k) = -1 := by rw [cd]; exact zs_nm1 d hd
      have c1 : ¬ j_X2_cards vh1 vh2 (nI a) ≤ nI k := by rw [eA]; exact nI_ge (by omega) (by omega)
      have c2 : ¬ nI q < 0 := nI_pos (by omega)
      have kd : (j_X2_cardAt vh1 vh2 (nI a) (nI k)).toNatClampNeg = d := by rw [cd, nI_clamp (by omega)]
      have fa : fb_ct (fun j => decide (j_X2_reasonAgainst vdrawn vtr vled (nI a) vh1 vh2 (nI (j_X2_cardAt vh1 vh2 (nI a) (nI j)).toNatClampNeg) = 0)) (k + 1) = fb_ct (fun j => decide (j_X2_reasonAgainst vdrawn vtr vled (nI a) vh1 vh2 (nI (j_X2_cardAt vh1 vh2 (nI a) (nI j)).toNatClampNeg) = 0)) k + (if j_X2_reasonAgainst vdrawn vtr vled (nI a) vh1 vh2 (nI d) = 0 then 1 else 0) := by
        rw [fb_ct_succ, kd]
        by_cases q : j_X2_reasonAgainst vdrawn vtr vled (nI a) vh1 vh2 (nI d) = 0
        · simp [q]
        · simp [q]
      by_cases hR0 : j_X2_reasonAgainst vdrawn vtr vled (nI a) vh1 vh2 (nI d) = 0
      · have hRm : j_X2_reasonAgainst vdrawn vtr vled vmov vh1 vh2 (nI d) = 0 := by rw [hm]; exact hR0
        have c3 : j_X2_whyNot vdrawn vtr vled vmov vh1 vh2 (nI d) = 0 := hRm
        rcases Nat.eq_zero_or_pos q with q00 | q00
        · have em : nI q - 1 = (-1) := by rw [q00]; decide
          refine lv_iload hx hb dL_law_208 (lv_at hl 2 rfl) ?_
          refine lv_aload_n hx hb dL_law_210 rfl (lv_at hl 9 rfl) ?_
          refine lv_iload hx hb dL_law_211 (lv_at hl 3 rfl) ?_
          refine jr_callV (n := 1) (C := RX2) (As := [.int (nI a)]) (rest := [.int (nI k)]) S (c_X2_cards a0 aR aF aG cI vrow vdrawn vtr vled vmov vw1 vw2 veo veb vh1 vt1 vp1 vk1 vg1 vh2 vt2 vp2 vk2 vg2 (nI a) hAa) gL_law_X2_cards rfl (by decide +kernel) rfl ⟨⟨rfl, rfl⟩, ⟨Nat.le_of_ble_eq_true rfl, Nat.le_of_ble_eq_true rfl⟩, Nat.le_of_ble_eq_true rfl, Nat.le_of_ble_eq_true rfl⟩ hP hK hN [0, 1, 2, 3] [0] rfl rfl 0 2 rfl rfl rfl (lv_nil hl) rfl (Nat.le_of_ble_eq_true rfl) dL_law_213 ?_
          refine lv_icmp_ge (tgt := 259) hx hb dL_law_216 (by decide) (fun c_ => absurd c_ c1) (fun _ => ?_)
          refine lv_iload hx hb dL_law_219 (lv_at hl 0 rfl) ?_
          refine lv_if_lt (tgt := 259) hx hb dL_law_221 (by decide) (fun c_ => absurd c_ c2) (fun _ => ?_)
          refine lv_aload_n hx hb dL_law_224 rfl (lv_at hl 9 rfl) ?_
          refine lv_iload hx hb dL_law_225 (lv_at hl 3 rfl) ?_
          refine lv_iload hx hb dL_law_227 (lv_at hl 2 rfl) ?_
          refine jr_callV (n := 2) (C := RX2) (As := [.int (nI a), .int (nI k)]) (rest := []) S (c_X2_cardAt a0 aR aF aG cI vrow vdrawn vtr vled vmov vw1 vw2 veo veb vh1 vt1 vp1 vk1 vg1 vh2 vt2 vp2 vk2 vg2 (nI a) (nI k) hne hAa) gL_law_X2_cardAt rfl (by decide +kernel) rfl ⟨⟨rfl, rfl⟩, ⟨Nat.le_of_ble_eq_true rfl, Nat.le_of_ble_eq_true rfl⟩, Nat.le_of_ble_eq_true rfl, Nat.le_of_ble_eq_true rfl⟩ hP hK hN [0, 1, 2, 3] [0] rfl rfl 0 2 rfl rfl rfl (lv_nil hl) rfl (Nat.le_of_ble_eq_true rfl) dL_law_229 ?_
          rw [cd]
          refine lv_istore (lv' := [(11, .int (nI d)), (10, .int (nI q)), (12, .int (nI k)), (8, .int (nI a)), (7, .int sp), (5, .int (nI dd)), (4, .int 1), (2, .int f), (3, .int g), (1, .ref a0), (0, .ref b)]) hx hb dL_law_232 hl (by decide) rfl (fun ls hl => ?_)
          refine lv_iload hx hb dL_law_234 (lv_at hl 1 rfl) ?_
          refine lv_aload_n hx hb dL_law_236 rfl (lv_at hl 9 rfl) ?_
          refine lv_iload hx hb dL_law_237 (lv_at hl 0 rfl) ?_
          refine jr_callV (n := 1) (C := RX2) (As := [.int (nI d)]) (rest := [.int (nI q)]) S (c_X2_whyNot a0 aR aF aG cI vrow vdrawn vtr vled vmov vw1 vw2 veo veb vh1 vt1 vp1 vk1 vg1 vh2 vt2 vp2 vk2 vg2 (nI d) hcd) gL_law_X2_whyNot rfl (by decide +kernel) rfl ⟨⟨rfl, rfl⟩, ⟨Nat.le_of_ble_eq_true rfl, Nat.le_of_ble_eq_true rfl⟩, Nat.le_of_ble_eq_true rfl, Nat.le_of_ble_eq_true rfl⟩ hP hK hN [0, 1, 2, 3] [0] rfl rfl 0 2 rfl rfl rfl (lv_nil hl) rfl (Nat.le_of_ble_eq_true rfl) dL_law_239 ?_
          refine lv_if_ne (tgt := 249) hx hb dL_law_242 (by decide) (fun c_ => absurd c3 c_) (fun _ => ?_)
          refine lv_iconst (v := 1) hx hb dL_law_245 (by decide) ?_
          refine lv_goto (tgt := 250) hx hb dL_law_246 (by decide) ?_
          refine lv_isub hx hb dL_law_250 ?_
          rw [em]
          refine lv_istore (lv' := [(10, .int (-1)), (11, .int (nI d)), (12, .int (nI k)), (8, .int (nI a)), (7, .int sp), (5, .int (nI dd)), (4, .int 1), (2, .int f), (3, .int g), (1, .ref a0), (0, .ref b)]) hx hb dL_law_251 hl (by decide) rfl (fun ls hl => ?_)
          refine lv_iinc (v := nI (k + 1)) (lv' := [(12, .int (nI (k + 1))), (10, .int (-1)), (11, .int (nI d)), (8, .int (nI a)), (7, .int sp), (5, .int (nI dd)), (4, .int 1), (2, .int f), (3, .int g), (1, .ref a0), (0, .ref b)]) hx hb dL_law_253 hl (k := 2) rfl (nI_1 k) (by decide) rfl (fun ls hl => ?_)
          refine lv_goto (tgt := 208) hx hb dL_law_256 (by decide) ?_
          refine lv_iload hx hb dL_law_208 (lv_at hl 0 rfl) ?_
          refine lv_aload_n hx hb dL_law_210 rfl (lv_at hl 9 rfl) ?_
          refine lv_iload hx hb dL_law_211 (lv_at hl 3 rfl) ?_
          refine jr_callV (n := 1) (C := RX2) (As := [.int (nI a)]) (rest := [.int (nI (k + 1))]) S (c_X2_cards a0 aR aF aG cI vrow vdrawn vtr vled vmov vw1 vw2 veo veb vh1 vt1 vp1 vk1 vg1 vh2 vt2 vp2 vk2 vg2 (nI a) hAa) gL_law_X2_cards rfl (by decide +kernel) rfl ⟨⟨rfl, rfl⟩, ⟨Nat.le_of_ble_eq_true rfl, Nat.le_of_ble_eq_true rfl⟩, Nat.le_of_ble_eq_true rfl, Nat.le_of_ble_eq_true rfl⟩ hP hK hN [0, 1, 2, 3] [0] rfl rfl 0 2 rfl rfl rfl (lv_nil hl) rfl (Nat.le_of_ble_eq_true rfl) dL_law_213 ?_
          refine lv_icmp_ge (tgt := 259) hx hb dL_law_216 (by decide) (fun c_1 => ?_) (fun c_1 => ?_)
          · skip
            exact kk d ls hd ud hRm (lv_sub hl [2, 3, 4, 5, 6, 7, 8, 9, 10] rfl)
          · skip
            refine lv_iload hx hb dL_law_219 (lv_at hl 1 rfl) ?_
            refine lv_if_lt (tgt := 259) hx hb dL_law_221 (by decide) (fun _ => ?_) (fun c_ => absurd (by decide) c_)
            exact kk d ls hd ud hRm (lv_sub hl [2, 3, 4, 5, 6, 7, 8, 9, 10] rfl)
        · obtain ⟨q9, e9⟩ : ∃ q9, q = q9 + 1 := ⟨q - 1, by omega⟩
          have em : nI q - 1 = nI q9 := by rw [e9]; exact nI_pred q9
          refine lv_iload hx hb dL_law_208 (lv_at hl 2 rfl) ?_
          refine lv_aload_n hx hb dL_law_210 rfl (lv_at hl 9 rfl) ?_
          refine lv_iload hx hb dL_law_211 (lv_at hl 3 rfl) ?_
          refine jr_callV (n := 1) (C := RX2) (As := [.int (nI a)]) (rest := [.int (nI k)]) S (c_X2_cards a0 aR aF aG cI vrow vdrawn vtr vled vmov vw1 vw2 veo veb vh1 vt1 vp1 vk1 vg1 vh2 vt2 vp2 vk2 vg2 (nI a) hAa) gL_law_X2_cards rfl (by decide +kernel) rfl ⟨⟨rfl, rfl⟩, ⟨Nat.le_of_ble_eq_true rfl, Nat.le_of_ble_eq_true rfl⟩, Nat.le_of_ble_eq_true rfl, Nat.le_of_ble_eq_true rfl⟩ hP hK hN [0, 1, 2, 3] [0] rfl rfl 0 2 rfl rfl rfl (lv_nil hl) rfl (Nat.le_of_ble_eq_true rfl) dL_law_213 ?_
          refine lv_icmp_ge (tgt := 259) hx hb dL_law_216 (by decide) (fun c_ => absurd c_ c1) (fun _ => ?_)
          refine lv_iload hx hb dL_law_219 (lv_at hl 0 rfl) ?_
          refine lv_if_lt (tgt := 259) hx hb dL_law_221 (by decide) (fun c_ => absurd c_ c2) (fun _ => ?_)
          refine lv_aload_n hx hb dL_law_224 rfl (lv_at hl 9 rfl) ?_
          refine lv_iload hx hb dL_law_225 (lv_at hl 3 rfl) ?_
          refine lv_iload hx hb dL_law_227 (lv_at hl 2 rfl) ?_
          refine jr_callV (n := 2) (C := RX2) (As := [.int (nI a), .int (nI k)]) (rest := []) S (c_X2_cardAt a0 aR aF aG cI vrow vdrawn vtr vled vmov vw1 vw2 veo veb vh1 vt1 vp1 vk1 vg1 vh2 vt2 vp2 vk2 vg2 (nI a) (nI k) hne hAa) gL_law_X2_cardAt rfl (by decide +kernel) rfl ⟨⟨rfl, rfl⟩, ⟨Nat.le_of_ble_eq_true rfl, Nat.le_of_ble_eq_true rfl⟩, Nat.le_of_ble_eq_true rfl, Nat.le_of_ble_eq_true rfl⟩ hP hK hN [0, 1, 2, 3] [0] rfl rfl 0 2 rfl rfl rfl (lv_nil hl) rfl (Nat.le_of_ble_eq_true rfl) dL_law_229 ?_
          rw [cd]
          refine lv_istore (lv' := [(11, .int (nI d)), (10, .int (nI q)), (12, .int (nI k)), (8, .int (nI a)), (7, .int sp), (5, .int (nI dd)), (4, .int 1), (2, .int f), (3, .int g), (1, .ref a0), (0, .ref b)]) hx hb dL_law_232 hl (by decide) rfl (fun ls hl => ?_)
          refine lv_iload hx hb dL_law_234 (lv_at hl 1 rfl) ?_
          refine lv_aload_n hx hb dL_law_236 rfl (lv_at hl 9 rfl) ?_
          refine lv_iload hx hb dL_law_237 (lv_at hl 0 rfl) ?_
          refine jr_callV (n := 1) (C := RX2) (As := [.int (nI d)]) (rest := [.int (nI q)]) S (c_X2_whyNot a0 aR aF aG cI vrow vdrawn vtr vled vmov vw1 vw2 veo veb vh1 vt1 vp1 vk1 vg1 vh2 vt2 vp2 vk2 vg2 (nI d) hcd) gL_law_X2_whyNot rfl (by decide +kernel) rfl ⟨⟨rfl, rfl⟩, ⟨Nat.le_of_ble_eq_true rfl, Nat.le_of_ble_eq_true rfl⟩, Nat.le_of_ble_eq_true rfl, Nat.le_of_ble_eq_true rfl⟩ hP hK hN [0, 1, 2, 3] [0] rfl rfl 0 2 rfl rfl rfl (lv_nil hl) rfl (Nat.le_of_ble_eq_true rfl) dL_law_239 ?_
          refine lv_if_ne (tgt := 249) hx hb dL_law_242 (by decide) (fun c_ => absurd c3 c_) (fun _ => ?_)
          refine lv_iconst (v := 1) hx hb dL_law_245 (by decide) ?_
          refine lv_goto (tgt := 250) hx hb dL_law_246 (by decide) ?_
          refine lv_isub hx hb dL_law_250 ?_
          rw [em]
          refine lv_istore (lv' := [(10, .int (nI q9)), (11, .int (nI d)), (12, .int (nI k)), (8, .int (nI a)), (7, .int sp), (5, .int (nI dd)), (4, .int 1), (2, .int f), (3, .int g), (1, .ref a0), (0, .ref b)]) hx hb dL_law_251 hl (by decide) rfl (fun ls hl => ?_)
          refine lv_iinc (v := nI (k + 1)) (lv' := [(12, .int (nI (k + 1))), (10, .int (nI q9)), (11, .int (nI d)), (8, .int (nI a)), (7, .int sp), (5, .int (nI dd)), (4, .int 1), (2, .int f), (3, .int g), (1, .ref a0), (0, .ref b)]) hx hb dL_law_253 hl (k := 2) rfl (nI_1 k) (by decide) rfl (fun ls hl => ?_)
          refine lv_goto (tgt := 208) hx hb dL_law_256 (by decide) ?_
          exact ih (k + 1) q9 (nI d) (by omega) (by rw [fa, if_pos hR0]; omega) ls (lv_sub hl [1, 2, 0, 3, 4, 5, 6, 7, 8, 9, 10] rfl)
      · have c3 : ¬ j_X2_whyNot vdrawn vtr vled vmov vh1 vh2 (nI d) = 0 := by intro z; exact hR0 (by rw [← hm]; exact z)
        have em : nI q - 0 = nI q := Int32.sub_zero _
        refine lv_iload hx hb dL_law_208 (lv_at hl 2 rfl) ?_
        refine lv_aload_n hx hb dL_law_210 rfl (lv_at hl 9 rfl) ?_
        refine lv_iload hx hb dL_law_211 (lv_at hl 3 rfl) ?_
        refine jr_callV (n := 1) (C := RX2) (As := [.int (nI a)]) (rest := [.int (nI k)]) S (c_X2_cards a0 aR aF aG cI vrow vdrawn vtr vled vmov vw1 vw2 veo veb vh1 vt1 vp1 vk1 vg1 vh2 vt2 vp2 vk2 vg2 (nI a) hAa) gL_law_X2_cards rfl (by decide +kernel) rfl ⟨⟨rfl, rfl⟩, ⟨Nat.le_of_ble_eq_true rfl, Nat.le_of_ble_eq_true rfl⟩, Nat.le_of_ble_eq_true rfl, Nat.le_of_ble_eq_true rfl⟩ hP hK hN [0, 1, 2, 3] [0] rfl rfl 0 2 rfl rfl rfl (lv_nil hl) rfl (Nat.le_of_ble_eq_true rfl) dL_law_213 ?_
        refine lv_icmp_ge (tgt := 259) hx hb dL_law_216 (by decide) (fun c_ => absurd c_ c1) (fun _ => ?_)
        refine lv_iload hx hb dL_law_219 (lv_at hl 0 rfl) ?_
        refine lv_if_lt (tgt := 259) hx hb dL_law_221 (by decide) (fun c_ => absurd c_ c2) (fun _ => ?_)
        refine lv_aload_n hx hb dL_law_224 rfl (lv_at hl 9 rfl) ?_
        refine lv_iload hx hb dL_law_225 (lv_at hl 3 rfl) ?_
        refine lv_iload hx hb dL_law_227 (lv_at hl 2 rfl) ?_
        refine jr_callV (n := 2) (C := RX2) (As := [.int (nI a), .int (nI k)]) (rest := []) S (c_X2_cardAt a0 aR aF aG cI vrow vdrawn vtr vled vmov vw1 vw2 veo veb vh1 vt1 vp1 vk1 vg1 vh2 vt2 vp2 vk2 vg2 (nI a) (nI k) hne hAa) gL_law_X2_cardAt rfl (by decide +kernel) rfl ⟨⟨rfl, rfl⟩, ⟨Nat.le_of_ble_eq_true rfl, Nat.le_of_ble_eq_true rfl⟩, Nat.le_of_ble_eq_true rfl, Nat.le_of_ble_eq_true rfl⟩ hP hK hN [0, 1, 2, 3] [0] rfl rfl 0 2 rfl rfl rfl (lv_nil hl) rfl (Nat.le_of_ble_eq_true rfl) dL_law_229 ?_
        rw [cd]
        refine lv_istore (lv' := [(11, .int (nI d)), (10, .int (nI q)), (12, .int (nI k)), (8, .int (nI a)), (7, .int sp), (5, .int (nI dd)), (4, .int 1), (2, .int f), (3, .int g), (1, .ref a0), (0, .ref b)]) hx hb dL_law_232 hl (by decide) rfl (fun ls hl => ?_)
        refine lv_iload hx hb dL_law_234 (lv_at hl 1 rfl) ?_
        refine lv_aload_n hx hb dL_law_236 rfl (lv_at hl 9 rfl) ?_
        refine lv_iload hx hb dL_law_237 (lv_at hl 0 rfl) ?_
        refine jr_callV (n := 1) (C := RX2) (As := [.int (nI d)]) (rest := [.int (nI q)]) S (c_X2_whyNot a0 aR aF aG cI vrow vdrawn vtr vled vmov vw1 vw2 veo veb vh1 vt1 vp1 vk1 vg1 vh2 vt2 vp2 vk2 vg2 (nI d) hcd) gL_law_X2_whyNot rfl (by decide +kernel) rfl ⟨⟨rfl, rfl⟩, ⟨Nat.le_of_ble_eq_true rfl, Nat.le_of_ble_eq_true rfl⟩, Nat.le_of_ble_eq_true rfl, Nat.le_of_ble_eq_true rfl⟩ hP hK hN [0, 1, 2, 3] [0] rfl rfl 0 2 rfl rfl rfl (lv_nil hl) rfl (Nat.le_of_ble_eq_true rfl) dL_law_239 ?_
        refine lv_if_ne (tgt := 249) hx hb dL_law_242 (by decide) (fun _ => ?_) (fun c_ => absurd c_ c3)
        refine lv_iconst (v := 0) hx hb dL_law_249 (by decide) ?_
        refine lv_isub hx hb dL_law_250 ?_
        rw [em]
        refine lv_istore (lv' := [(10, .int (nI q)), (11, .int (nI d)), (12, .int (nI k)), (8, .int (nI a)), (7, .int sp), (5, .int (nI dd)), (4, .int 1), (2, .int f), (3, .int g), (1, .ref a0), (0, .ref b)]) hx hb dL_law_251 hl (by decide) rfl (fun ls hl => ?_)
        refine lv_iinc (v := nI (k + 1)) (lv' := [(12, .int (nI (k + 1))), (10, .int (nI q)), (11, .int (nI d)), (8, .int (nI a)), (7, .int sp), (5, .int (nI dd)), (4, .int 1), (2, .int f), (3, .int g), (1, .ref a0), (0, .ref b)]) hx hb dL_law_253 hl (k := 2) rfl (nI_1 k) (by decide) rfl (fun ls hl => ?_)
        refine lv_goto (tgt := 208) hx hb dL_law_256 (by decide) ?_
        exact ih (k + 1) q (nI d) (by omega) (by rw [fa, if_neg hR0]; exact hq) ls (lv_sub hl [1, 2, 0, 3, 4, 5, 6, 7, 8, 9, 10] rfl)
  refine lv_iload hx hb dL_law_193 (lv_at hl 0 rfl) ?_
  refine lv_aload_n hx hb dL_law_195 rfl (lv_at hl 7 rfl) ?_
  refine jr_callV (n := 0) (C := RX2) (As := []) (rest := [.int (nI r)]) S (c_X2_choices a0 aR aF aG cI vrow vdrawn vtr vled vmov vw1 vw2 veo veb vh1 vt1 vp1 vk1 vg1 vh2 vt2 vp2 vk2 vg2) gL_law_X2_choices rfl (by decide +kernel) rfl ⟨⟨rfl, rfl⟩, ⟨Nat.le_of_ble_eq_true rfl, Nat.le_of_ble_eq_true rfl⟩, Nat.le_of_ble_eq_true rfl, Nat.le_of_ble_eq_true rfl⟩ hP hK hN [0, 1, 2, 3] [0] rfl rfl 0 2 rfl rfl rfl (lv_nil hl) rfl (Nat.le_of_ble_eq_true rfl) dL_law_196 ?_
  rw [cch]
  refine lv_irem hx hb dL_law_199 hne0 ?_
  rw [erem]
  refine lv_istore (lv' := [(10, .int (nI q0)), (9, .int (nI r)), (8, .int (nI a)), (7, .int sp), (5, .int (nI dd)), (4, .int 1), (2, .int f), (3, .int g), (1, .ref a0), (0, .ref b)]) hx hb dL_law_200 hl (by decide) rfl (fun ls hl => ?_)
  refine lv_iconst (v := (-1)) hx hb dL_law_202 (by decide) ?_
  refine lv_istore (lv' := [(11, .int (-1)), (10, .int (nI q0)), (9, .int (nI r)), (8, .int (nI a)), (7, .int sp), (5, .int (nI dd)), (4, .int 1), (2, .int f), (3, .int g), (1, .ref a0), (0, .ref b)]) hx hb dL_law_203 hl (by decide) rfl (fun ls hl => ?_)
  refine lv_iconst (v := 0) hx hb dL_law_205 (by decide) ?_
  refine lv_istore (lv' := [(12, .int 0), (11, .int (-1)), (10, .int (nI q0)), (9, .int (nI r)), (8, .int (nI a)), (7, .int sp), (5, .int (nI dd)), (4, .int 1), (2, .int f), (3, .int g), (1, .ref a0), (0, .ref b)]) hx hb dL_law_206 hl (by decide) rfl (fun ls hl => ?_)
  exact lp (zl_nn up a) 0 q0 (-1) (by omega) rfl ls (lv_sub hl [2, 1, 0, 4, 5, 6, 7, 8, 9, 10, 11] rfl)
set_option maxRecDepth 100000 in
set_option maxHeartbeats 8000000 in
theorem pz_glove (X : pz_X l p s m c b L xs D A cI) (hdd : dd < 3) (hR : pq_R vrow vdrawn vtr vled vmov vw1 vw2 vh1 vt1 vp1 vk1 vg1 vh2 vt2 vp2 vk2 vg2 sp f g n up) (hab : a + a' = 1) (hm : vmov = nI a) (hP : va_P D vwCl (jC a0 aR aF aG cI vrow vdrawn vtr vled vmov vw1 vw2 veo veb vh1 vt1 vp1 vk1 vg1 vh2 vt2 vp2 vk2 vg2) H) (hD : va_D A (jC a0 aR aF aG cI vrow vdrawn vtr vled vmov vw1 vw2 veo veb vh1 vt1 vp1 vk1 vg1 vh2 vt2 vp2 vk2 vg2)) (hS : va_S A s.heap H locs) (hl : lv_has ls 19 [(7, .int sp), (5, .int (nI dd)), (4, .int 1), (2, .int f), (3, .int g), (1, .ref a0), (0, .ref b)])
    (kk : ∀ (r : Nat) (w1 w2 : Int32) (H1 : Heap) (locs1 : List Loc) (ls1 : Array Slot), r < 60 → pq_R vrow vdrawn vtr vled vmov vw1 vw2 vh1 vt1 vp1 vk1 w1 vh2 vt2 vp2 vk2 w2 sp f g n up → va_P D vwCl (jC a0 aR aF aG cI vrow vdrawn vtr vled vmov vw1 vw2 veo veb vh1 vt1 vp1 vk1 w1 vh2 vt2 vp2 vk2 w2) H1 → va_D A (jC a0 aR aF aG cI vrow vdrawn vtr vled vmov vw1 vw2 veo veb vh1 vt1 vp1 vk1 w1 vh2 vt2 vp2 vk2 w2) → va_S A s.heap H1 locs1 → lv_has ls1 19 [(9, .int (nI r)), (8, .int (nI a)), (7, .int sp), (5, .int (nI dd)), (4, .int 1), (2, .int f), (3, .int g), (1, .ref a0), (0, .ref b)] → W p l e room_1 s m #[Value.ref b] below meth c H1 locs1 190 1523 Q (F0 m 193 ls1 [])) : W p l e room_1 s m #[Value.ref b] below meth c H locs 190 1523 Q (F0 m 114 ls []) := by
  obtain ⟨S, hN, hXs, hbl, hbA, hA, hK, hL260⟩ := id X
  obtain ⟨hx, hb, hml, hown, hts⟩ := id S
  obtain ⟨E, hV⟩ := pq_view hR
  obtain ⟨hpl, lo, ⟨g1, g2⟩, htr, ⟨n06, n16⟩, ⟨hE, hdr, hn2⟩, ⟨k0, k1, hk0, hk1, hk⟩, _, hmv⟩ := id hV
  have part : zl_nn up 0 + zl_nn up 1 + zl_nn up 2 + zl_nn up 3 + zl_nn up 4 + zl_nn up 5 = 42 := pq_part (fun c hc => (hpl c hc).2)
  have ha : a < 2 := by omega
  have hAa := pz_arch ha
  have hA0 : ¬ j_X2_isArchivist 0 = 0 := by decide
  have hT : j_X2_turn vmov = nI a := hm
  have eA : j_X2_cards vh1 vh2 (nI a) = nI (zl_nn up a) := pq_ca ha g1 g2
  have hna : zl_nn up a ≤ 6 := by
    have : a = 0 ∨ a = 1 := by omega
    rcases this with e | e
    · subst e; exact n06
    · subst e; exact n16
  have hpile : j_X2_pile vdrawn = nI (30 - 2 * E) := by
    rw [hdr]
    show nI 42 - nI (12 + 2 * E) = _
    rw [pk_sub (by omega)]
    congr 1
    omega
  obtain ⟨K, hK31, eK⟩ : ∃ K : Nat, K < 2 ^ 31 ∧ (((nI dd) + (j_X2_tricks vk1 vk2 0)) + (2 * (nI (zl_nn up a)))) + (j_X2_pile vdrawn) = nI K := by
    refine ⟨dd + k0 + 2 * zl_nn up a + (30 - 2 * E), by omega, ?_⟩
    rw [hpile, show j_X2_tricks vk1 vk2 0 = nI k0 from hk0, show (2 : Int32) = nI 2 from rfl, pk_mul, nI_add, nI_add, nI_add]
  have h00 : ¬ vmov = (-1) := by rw [hm]; exact zs_nm1 a (by omega)
  refine lv_aload_n hx hb dL_law_114 rfl (lv_at hl 5 rfl) ?_
  refine jr_callV (n := 0) (C := RX2) (As := []) (rest := []) S (c_X2_turn a0 aR aF aG cI vrow vdrawn vtr vled vmov vw1 vw2 veo veb vh1 vt1 vp1 vk1 vg1 vh2 vt2 vp2 vk2 vg2) gL_law_X2_turn rfl (by decide +kernel) rfl ⟨⟨rfl, rfl⟩, ⟨Nat.le_of_ble_eq_true rfl, Nat.le_of_ble_eq_true rfl⟩, Nat.le_of_ble_eq_true rfl, Nat.le_of_ble_eq_true rfl⟩ hP hK hN [0, 1, 2, 3] [0] rfl rfl 0 2 rfl rfl rfl (lv_nil hl) rfl (Nat.le_of_ble_eq_true rfl) dL_law_115 ?_
  rw [hT]
  refine lv_istore (lv' := [(8, .int (nI a)), (7, .int sp), (5, .int (nI dd)), (4, .int 1), (2, .int f), (3, .int g), (1, .ref a0), (0, .ref b)]) hx hb dL_law_118 hl (by decide) rfl (fun ls hl => ?_)
  refine lv_aload_n hx hb dL_law_120 rfl (lv_at hl 7 rfl) ?_
  refine lv_iload hx hb dL_law_121 (lv_at hl 2 rfl) ?_
  refine lv_aload_n hx hb dL_law_123 rfl (lv_at hl 6 rfl) ?_
  refine lv_iconst (v := 0) hx hb dL_law_124 (by decide) ?_
  refine jr_callV (n := 1) (C := RX2) (As := [.int 0]) (rest := [.int (nI dd), .ref b]) S (c_X2_tricks a0 aR aF aG cI vrow vdrawn vtr vled vmov vw1 vw2 veo veb vh1 vt1 vp1 vk1 vg1 vh2 vt2 vp2 vk2 vg2 0 hA0) gL_law_X2_tricks rfl (by decide +kernel) rfl ⟨⟨rfl, rfl⟩, ⟨Nat.le_of_ble_eq_true rfl, Nat.le_of_ble_eq_true rfl⟩, Nat.le_of_ble_eq_true rfl, Nat.le_of_ble_eq_true rfl⟩ hP hK hN [0, 1, 2, 3] [0] rfl rfl 0 2 rfl rfl rfl (lv_nil hl) rfl (Nat.le_of_ble_eq_true rfl) dL_law_125 ?_
  refine lv_iadd hx hb dL_law_128 ?_
  refine lv_iconst (v := 2) hx hb dL_law_129 (by decide) ?_
  refine lv_aload_n hx hb dL_law_130 rfl (lv_at hl 6 rfl) ?_
  refine lv_iload hx hb dL_law_131 (lv_at hl 0 rfl) ?_
  refine jr_callV (n := 1) (C := RX2) (As := [.int (nI a)]) (rest := [.int 2, .int ((nI dd) + (j_X2_tricks vk1 vk2 0)), .ref b]) S (c_X2_cards a0 aR aF aG cI vrow vdrawn vtr vled vmov vw1 vw2 veo veb vh1 vt1 vp1 vk1 vg1 vh2 vt2 vp2 vk2 vg2 (nI a) hAa) gL_law_X2_cards rfl (by decide +kernel) rfl ⟨⟨rfl, rfl⟩, ⟨Nat.le_of_ble_eq_true rfl, Nat.le_of_ble_eq_true rfl⟩, Nat.le_of_ble_eq_true rfl, Nat.le_of_ble_eq_true rfl⟩ hP hK hN [0, 1, 2, 3] [0] rfl rfl 0 2 rfl rfl rfl (lv_nil hl) rfl (Nat.le_of_ble_eq_true rfl) dL_law_133 ?_
  rw [eA]
  refine lv_imul hx hb dL_law_136 ?_
  refine lv_iadd hx hb dL_law_137 ?_
  refine lv_aload_n hx hb dL_law_138 rfl (lv_at hl 6 rfl) ?_
  refine jr_callV (n := 0) (C := RX2) (As := []) (rest := [.int (((nI dd) + (j_X2_tricks vk1 vk2 0)) + (2 * (nI (zl_nn up a)))), .ref b]) S (c_X2_pile a0 aR aF aG cI vrow vdrawn vtr vled vmov vw1 vw2 veo veb vh1 vt1 vp1 vk1 vg1 vh2 vt2 vp2 vk2 vg2) gL_law_X2_pile rfl (by decide +kernel) rfl ⟨⟨rfl, rfl⟩, ⟨Nat.le_of_ble_eq_true rfl, Nat.le_of_ble_eq_true rfl⟩, Nat.le_of_ble_eq_true rfl, Nat.le_of_ble_eq_true rfl⟩ hP hK hN [0, 1, 2, 3] [0] rfl rfl 0 2 rfl rfl rfl (lv_nil hl) rfl (Nat.le_of_ble_eq_true rfl) dL_law_139 ?_
  refine lv_iadd hx hb dL_law_142 ?_
  rw [eK]
  refine lv_bipush (v := nI 60) hx hb dL_law_143 (by decide) ?_
  refine pd_call (k := K) (n := 60) (rest := []) S gL_law_L_drawn (by omega) hK31 (by decide) (by decide) ⟨Nat.le_of_ble_eq_true rfl, Nat.le_of_ble_eq_true rfl, Nat.le_of_ble_eq_true rfl, Nat.le_of_ble_eq_true rfl⟩ hXs hbl hbA hS (lv_nil hl) (Nat.le_of_ble_eq_true rfl) dL_law_145 (fun r hr => ?_)
  refine lv_istore (lv' := [(9, .int (nI r)), (8, .int (nI a)), (7, .int sp), (5, .int (nI dd)), (4, .int 1), (2, .int f), (3, .int g), (1, .ref a0), (0, .ref b)]) hx hb dL_law_148 hl (by decide) rfl (fun ls hl => ?_)
  refine lv_iload hx hb dL_law_150 (lv_at hl 0 rfl) ?_
  refine lv_bipush (v := 13) hx hb dL_law_152 (by decide) ?_
  refine lv_irem hx hb dL_law_154 (by decide) ?_
  refine lv_if_ne (tgt := 193) hx hb dL_law_155 (by decide) (fun c_1 => ?_) (fun c_1 => ?_)
  · skip
    exact kk r vg1 vg2 H locs ls hr hR hP hD hS (lv_sub hl [0, 1, 2, 3, 4, 5, 6, 7, 8] rfl)
  · skip
    refine lv_aload_n hx hb dL_law_158 rfl (lv_at hl 7 rfl) ?_
    refine lv_iload hx hb dL_law_159 (lv_at hl 1 rfl) ?_
    refine jr_callV (n := 1) (C := RX2) (As := [.int (nI a)]) (rest := []) S (c_X2_gloves a0 aR aF aG cI vrow vdrawn vtr vled vmov vw1 vw2 veo veb vh1 vt1 vp1 vk1 vg1 vh2 vt2 vp2 vk2 vg2 (nI a) hAa) gL_law_X2_gloves rfl (by decide +kernel) rfl ⟨⟨rfl, rfl⟩, ⟨Nat.le_of_ble_eq_true rfl, Nat.le_of_ble_eq_true rfl⟩, Nat.le_of_ble_eq_true rfl, Nat.le_of_ble_eq_true rfl⟩ hP hK hN [0, 1, 2, 3] [0] rfl rfl 0 2 rfl rfl rfl (lv_nil hl) rfl (Nat.le_of_ble_eq_true rfl) dL_law_161 ?_
    refine lv_if_ne (tgt := 193) hx hb dL_law_164 (by decide) (fun c_2 => ?_) (fun c_2 => ?_)
    · skip
      exact kk r vg1 vg2 H locs ls hr hR hP hD hS (lv_sub hl [0, 1, 2, 3, 4, 5, 6, 7, 8] rfl)
    · skip
      have ha01 : a = 0 ∨ a = 1 := by omega
      rcases ha01 with e01 | e01
      · skip
        have h11 : vmov = 0 := by rw [hm, e01]; decide
        have h22 : vg1 = 0 := by
          have := c_2
          rw [e01, j_X2_gloves, if_pos (show nI 0 = 0 by decide)] at this
          exact this
        have c11 : j_X2_putOnGloves_F vmov = nI a := hm
        have c12 : j_X2_gloves j_X2_putOnGloves_F_vg1 vg2 (nI a) = 1 := by
          rw [e01, j_X2_gloves, if_pos (show nI 0 = 0 by decide)]; rfl
        refine lv_aload_n hx hb dL_law_167 rfl (lv_at hl 7 rfl) ?_
        refine jw_callVi (n := 0) (C := RX2) (As := []) (rest := []) (wr := []) (wn := [(a0, .inr (2, [.ref aR, .ref aF, .ref aG, .int vdrawn, .int vtr, .int vled, .int vmov, .int vw1, .int vw2, va_rf veo, .int veb])), (aF, .inr (0, [.long vh1, .long vt1, .int vp1, .int vk1, .int j_X2_putOnGloves_F_vg1])), (aG, .inr (0, [.long vh2, .long vt2, .int vp2, .int vk2, .int vg2])), (aR, .inl (cI, 42, .inl vrow))]) S (c_X2_putOnGloves_F a0 aR aF aG cI vrow vdrawn vtr vled vmov vw1 vw2 veo veb vh1 vt1 vp1 vk1 vg1 vh2 vt2 vp2 vk2 vg2 h00 h11 h22) gL_law_X2_putOnGloves rfl (by decide +kernel) rfl ⟨⟨rfl, rfl⟩, ⟨Nat.le_of_ble_eq_true rfl, Nat.le_of_ble_eq_true rfl⟩, Nat.le_of_ble_eq_true rfl, Nat.le_of_ble_eq_true rfl⟩ hP hK hN hD hS hA [0, 1, 2, 3] [] [0, 1, 2, 3] [0] rfl rfl ⟨rfl, rfl, rfl⟩ (by decide) rfl rfl 0 2 rfl rfl rfl (lv_nil hl) rfl (Nat.le_of_ble_eq_true rfl) dL_law_168 (fun H locs hP hD hS => ?_)
        refine lv_iload hx hb dL_law_171 (lv_at hl 1 rfl) ?_
        refine lv_icmp_ne (tgt := 190) hx hb dL_law_173 (by decide) (fun c_ => absurd c11 c_) (fun _ => ?_)
        refine lv_aload_n hx hb dL_law_176 rfl (lv_at hl 7 rfl) ?_
        refine lv_iload hx hb dL_law_177 (lv_at hl 1 rfl) ?_
        refine jr_callV (n := 1) (C := RX2) (As := [.int (nI a)]) (rest := []) S (c_X2_gloves a0 aR aF aG cI vrow vdrawn vtr vled vmov vw1 vw2 veo veb vh1 vt1 vp1 vk1 j_X2_putOnGloves_F_vg1 vh2 vt2 vp2 vk2 vg2 (nI a) hAa) gL_law_X2_gloves rfl (by decide +kernel) rfl ⟨⟨rfl, rfl⟩, ⟨Nat.le_of_ble_eq_true rfl, Nat.le_of_ble_eq_true rfl⟩, Nat.le_of_ble_eq_true rfl, Nat.le_of_ble_eq_true rfl⟩ hP hK hN [0, 1, 2, 3] [0] rfl rfl 0 2 rfl rfl rfl (lv_nil hl) rfl (Nat.le_of_ble_eq_true rfl) dL_law_179 ?_
        refine lv_iconst (v := 1) hx hb dL_law_182 (by decide) ?_
        refine lv_icmp_ne (tgt := 190) hx hb dL_law_183 (by decide) (fun c_ => absurd c12 c_) (fun _ => ?_)
        refine lv_iconst (v := 1) hx hb dL_law_186 (by decide) ?_
        refine lv_goto (tgt := 191) hx hb dL_law_187 (by decide) ?_
        refine lv_istore (lv' := [(4, .int 1), (9, .int (nI r)), (8, .int (nI a)), (7, .int sp), (5, .int (nI dd)), (2, .int f), (3, .int g), (1, .ref a0), (0, .ref b)]) hx hb dL_law_191 hl (by decide) rfl (fun ls hl => ?_)
        exact kk r j_X2_putOnGloves_F_vg1 vg2 H locs ls hr (pq_gloveF hR h00 h11 h22) hP hD hS (lv_sub hl [1, 2, 3, 4, 0, 5, 6, 7, 8] rfl)
      · skip
        have h11 : ¬ vmov = 0 := by rw [hm, e01]; decide
        have h22 : vg2 = 0 := by
          have := c_2
          rw [e01, j_X2_gloves, if_neg (show ¬ nI 1 = 0 by decide)] at this
          exact this
        have c11 : j_X2_putOnGloves_G vmov = nI a := hm
        have c12 : j_X2_gloves vg1 j_X2_putOnGloves_G_vg2 (nI a) = 1 := by
          rw [e01, j_X2_gloves, if_neg (show ¬ nI 1 = 0 by decide)]; rfl
        refine lv_aload_n hx hb dL_law_167 rfl (lv_at hl 7 rfl) ?_
        refine jw_callVi (n := 0) (C := RX2) (As := []) (rest := []) (wr := []) (wn := [(a0, .inr (2, [.ref aR, .ref aF, .ref aG, .int vdrawn, .int vtr, .int vled, .int vmov, .int vw1, .int vw2, va_rf veo, .int veb])), (aF, .inr (0, [.long vh1, .long vt1, .int vp1, .int vk1, .int vg1])), (aG, .inr (0, [.long vh2, .long vt2, .int vp2, .int vk2, .int j_X2_putOnGloves_G_vg2])), (aR, .inl (cI, 42, .inl vrow))]) S (c_X2_putOnGloves_G a0 aR aF aG cI vrow vdrawn vtr vled vmov vw1 vw2 veo veb vh1 vt1 vp1 vk1 vg1 vh2 vt2 vp2 vk2 vg2 h00 h11 h22) gL_law_X2_putOnGloves rfl (by decide +kernel) rfl ⟨⟨rfl, rfl⟩, ⟨Nat.le_of_ble_eq_true rfl, Nat.le_of_ble_eq_true rfl⟩, Nat.le_of_ble_eq_true rfl, Nat.le_of_ble_eq_true rfl⟩ hP hK hN hD hS hA [0, 1, 2, 3] [] [0, 1, 2, 3] [0] rfl rfl ⟨rfl, rfl, rfl⟩ (by decide) rfl rfl 0 2 rfl rfl rfl (lv_nil hl) rfl (Nat.le_of_ble_eq_true rfl) dL_law_168 (fun H locs hP hD hS => ?_)
        refine lv_iload hx hb dL_law_171 (lv_at hl 1 rfl) ?_
        refine lv_icmp_ne (tgt := 190) hx hb dL_law_173 (by decide) (fun c_ => absurd c11 c_) (fun _ => ?_)
        refine lv_aload_n hx hb dL_law_176 rfl (lv_at hl 7 rfl) ?_
        refine lv_iload hx hb dL_law_177 (lv_at hl 1 rfl) ?_
        refine jr_callV (n := 1) (C := RX2) (As := [.int (nI a)]) (rest := []) S (c_X2_gloves a0 aR aF aG cI vrow vdrawn vtr vled vmov vw1 vw2 veo veb vh1 vt1 vp1 vk1 vg1 vh2 vt2 vp2 vk2 j_X2_putOnGloves_G_vg2 (nI a) hAa) gL_law_X2_gloves rfl (by decide +kernel) rfl ⟨⟨rfl, rfl⟩, ⟨Nat.le_of_ble_eq_true rfl, Nat.le_of_ble_eq_true rfl⟩, Nat.le_of_ble_eq_true rfl, Nat.le_of_ble_eq_true rfl⟩ hP hK hN [0, 1, 2, 3] [0] rfl rfl 0 2 rfl rfl rfl (lv_nil hl) rfl (Nat.le_of_ble_eq_true rfl) dL_law_179 ?_
        refine lv_iconst (v := 1) hx hb dL_law_182 (by decide) ?_
        refine lv_icmp_ne (tgt := 190) hx hb dL_law_183 (by decide) (fun c_ => absurd c12 c_) (fun _ => ?_)
        refine lv_iconst (v := 1) hx hb dL_law_186 (by decide) ?_
        refine lv_goto (tgt := 191) hx hb dL_law_187 (by decide) ?_
        refine lv_istore (lv' := [(4, .int 1), (9, .int (nI r)), (8, .int (nI a)), (7, .int sp), (5, .int (nI dd)), (2, .int f), (3, .int g), (1, .ref a0), (0, .ref b)]) hx hb dL_law_191 hl (by decide) rfl (fun ls hl => ?_)
        exact kk r vg1 j_X2_putOnGloves_G_vg2 H locs ls hr (pq_gloveG hR h00 h11 h22) hP hD hS (lv_sub hl [1, 2, 3, 4, 0, 5, 6, 7, 8] rfl)
set_option maxRecDepth 100000 in
set_option maxHeartbeats 8000000 in
theorem pz_lead (X : pz_X l p s m c b L xs D A cI) (hR : pq_R vrow vdrawn vtr vled vmov vw1 vw2 vh1 vt1 vp1 vk1 vg1 vh2 vt2 vp2 vk2 vg2 sp f g n up) (hab : a + a' = 1) (hm : vmov = nI a) {d : Nat} (hd : d < 42) (ud : up d = nI a) (hR0 : j_X2_reasonAgainst vdrawn vtr vled vmov vh1 vh2 (nI d) = 0) (hled : vled = (-1)) (hP : va_P D vwCl (jC a0 aR aF aG cI vrow vdrawn vtr vled vmov vw1 vw2 veo veb vh1 vt1 vp1 vk1 vg1 vh2 vt2 vp2 vk2 vg2) H) (hD : va_D A (jC a0 aR aF aG cI vrow vdrawn vtr vled vmov vw1 vw2 veo veb vh1 vt1 vp1 vk1 vg1 vh2 vt2 vp2 vk2 vg2)) (hS : va_S A s.heap H locs) (hl : lv_has ls 19 [(11, .int (nI d)), (8, .int (nI a)), (7, .int sp), (5, .int (nI dd)), (4, .int 1), (2, .int f), (3, .int g), (1, .ref a0), (0, .ref b)])
    (kk : ∀ (y_vrow : Nat → Int32) (y_vdrawn y_vtr y_vled y_vmov y_vw1 y_vw2 : Int32) (y_veo : Option Nat) (y_veb : Int32) (y_vh1 y_vt1 : Int64) (y_vp1 y_vk1 y_vg1 : Int32) (y_vh2 y_vt2 : Int64) (y_vp2 y_vk2 y_vg2 : Int32) (sp' : Int32) (n' : Nat) (up' : Nat → Int32) (H1 : Heap) (locs1 : List Loc) (ls1 : Array Slot), n' + 1 = n → pq_R y_vrow y_vdrawn y_vtr y_vled y_vmov y_vw1 y_vw2 y_vh1 y_vt1 y_vp1 y_vk1 y_vg1 y_vh2 y_vt2 y_vp2 y_vk2 y_vg2 sp' f g n' up' → va_P D vwCl (jC a0 aR aF aG cI y_vrow y_vdrawn y_vtr y_vled y_vmov y_vw1 y_vw2 y_veo y_veb y_vh1 y_vt1 y_vp1 y_vk1 y_vg1 y_vh2 y_vt2 y_vp2 y_vk2 y_vg2) H1 → va_D A (jC a0 aR aF aG cI y_vrow y_vdrawn y_vtr y_vled y_vmov y_vw1 y_vw2 y_veo y_veb y_vh1 y_vt1 y_vp1 y_vk1 y_vg1 y_vh2 y_vt2 y_vp2 y_vk2 y_vg2) → va_S A s.heap H1 locs1 → lv_has ls1 19 [(7, .int sp'), (5, .int (nI dd)), (4, .int 1), (2, .int f), (3, .int g), (1, .ref a0), (0, .ref b)] → W p l e room_1 s m #[Value.ref b] below meth c H1 locs1 190 1523 Q (F0 m 102 ls1 [])) : W p l e room_1 s m #[Value.ref b] below meth c H locs 190 1523 Q (F0 m 259 ls []) := by
  obtain ⟨S, hN, hXs, hbl, hbA, hA, hK, hL260⟩ := id X
  obtain ⟨hx, hb, hml, hown, hts⟩ := id S
  obtain ⟨E, hV⟩ := pq_view hR
  have ha : a < 2 := by omega
  have hAa := pz_arch ha
  have hcd : ¬ j_X2_isCard (nI d) = 0 := by rw [zr_isCard hd]; decide
  obtain ⟨up', n', hn', hR'⟩ := pq_leadT hR hd hR0 hled
  obtain ⟨E', hV'⟩ := pq_view hR'
  have el : j_X2_led vled = (-1) := hled
  have c1 : j_X2_play vtr vled vmov (nI d) = (-1) := by unfold j_X2_play; rw [if_pos hled]
  have c2 : j_X2_led (j_X2_play_vled vled (nI d)) = nI d := by show j_X2_play_vled vled (nI d) = _; unfold j_X2_play_vled; rw [if_pos hled]
  have c3 : j_X2_turn (j_X2_play_vmov vrow vdrawn vtr vled vmov vh1 vh2 (nI d)) = 1 - (nI a) := by
    show j_X2_play_vmov vrow vdrawn vtr vled vmov vh1 vh2 (nI d) = _
    unfold j_X2_play_vmov
    rw [if_pos hled, if_pos hled, ite_self, hm]
  refine lv_iload hx hb dL_law_259 (lv_at hl 4 rfl) ?_
  refine lv_if_eq (tgt := 275) hx hb dL_law_261 (by decide) (fun c_ => absurd c_ (by decide)) (fun _ => ?_)
  refine lv_aload_n hx hb dL_law_264 rfl (lv_at hl 7 rfl) ?_
  refine jr_callS (n := 1) (As := [.ref a0]) (rest := []) S (c_L_isFree a0 aR aF aG cI vrow vdrawn vtr vled vmov vw1 vw2 veo veb vh1 vt1 vp1 vk1 vg1 vh2 vt2 vp2 vk2 vg2 hV hab hm) gL_law_L_isFree rfl (by decide +kernel) rfl ⟨⟨rfl, rfl⟩, ⟨Nat.le_of_ble_eq_true rfl, Nat.le_of_ble_eq_true rfl⟩, Nat.le_of_ble_eq_true rfl, Nat.le_of_ble_eq_true rfl⟩ hP hK hN [0, 1, 2, 3] [0] rfl rfl (lv_nil hl) rfl (Nat.le_of_ble_eq_true rfl) dL_law_265 ?_
  refine lv_if_eq (tgt := 275) hx hb dL_law_268 (by decide) (fun c_ => absurd c_ (by decide)) (fun _ => ?_)
  refine lv_iconst (v := 1) hx hb dL_law_271 (by decide) ?_
  refine lv_goto (tgt := 276) hx hb dL_law_272 (by decide) ?_
  refine lv_istore (lv' := [(4, .int 1), (11, .int (nI d)), (8, .int (nI a)), (7, .int sp), (5, .int (nI dd)), (2, .int f), (3, .int g), (1, .ref a0), (0, .ref b)]) hx hb dL_law_276 hl (by decide) rfl (fun ls hl => ?_)
  refine lv_aload_n hx hb dL_law_278 rfl (lv_at hl 7 rfl) ?_
  refine jr_callV (n := 0) (C := RX2) (As := []) (rest := []) S (c_X2_led a0 aR aF aG cI vrow vdrawn vtr vled vmov vw1 vw2 veo veb vh1 vt1 vp1 vk1 vg1 vh2 vt2 vp2 vk2 vg2) gL_law_X2_led rfl (by decide +kernel) rfl ⟨⟨rfl, rfl⟩, ⟨Nat.le_of_ble_eq_true rfl, Nat.le_of_ble_eq_true rfl⟩, Nat.le_of_ble_eq_true rfl, Nat.le_of_ble_eq_true rfl⟩ hP hK hN [0, 1, 2, 3] [0] rfl rfl 0 2 rfl rfl rfl (lv_nil hl) rfl (Nat.le_of_ble_eq_true rfl) dL_law_279 ?_
  rw [el]
  refine lv_istore (lv' := [(12, .int (-1)), (4, .int 1), (11, .int (nI d)), (8, .int (nI a)), (7, .int sp), (5, .int (nI dd)), (2, .int f), (3, .int g), (1, .ref a0), (0, .ref b)]) hx hb dL_law_282 hl (by decide) rfl (fun ls hl => ?_)
  refine lv_iload hx hb dL_law_284 (lv_at hl 0 rfl) ?_
  refine lv_if_ge (tgt := 293) hx hb dL_law_286 (by decide) (fun c_ => absurd c_ (by decide)) (fun _ => ?_)
  refine lv_iconst (v := (-1)) hx hb dL_law_289 (by decide) ?_
  refine lv_goto (tgt := 299) hx hb dL_law_290 (by decide) ?_
  refine lv_istore (lv' := [(13, .int (-1)), (12, .int (-1)), (4, .int 1), (11, .int (nI d)), (8, .int (nI a)), (7, .int sp), (5, .int (nI dd)), (2, .int f), (3, .int g), (1, .ref a0), (0, .ref b)]) hx hb dL_law_299 hl (by decide) rfl (fun ls hl => ?_)
  refine lv_iload hx hb dL_law_301 (lv_at hl 0 rfl) ?_
  refine lv_if_ge (tgt := 310) hx hb dL_law_303 (by decide) (fun c_ => absurd c_ (by decide)) (fun _ => ?_)
  refine lv_iconst (v := 0) hx hb dL_law_306 (by decide) ?_
  refine lv_goto (tgt := 316) hx hb dL_law_307 (by decide) ?_
  refine lv_istore (lv' := [(14, .int 0), (13, .int (-1)), (12, .int (-1)), (4, .int 1), (11, .int (nI d)), (8, .int (nI a)), (7, .int sp), (5, .int (nI dd)), (2, .int f), (3, .int g), (1, .ref a0), (0, .ref b)]) hx hb dL_law_316 hl (by decide) rfl (fun ls hl => ?_)
  refine lv_iload hx hb dL_law_318 (lv_at hl 1 rfl) ?_
  refine lv_if_ge (tgt := 327) hx hb dL_law_320 (by decide) (fun c_ => absurd c_ (by decide)) (fun _ => ?_)
  refine lv_iconst (v := 0) hx hb dL_law_323 (by decide) ?_
  refine lv_goto (tgt := 333) hx hb dL_law_324 (by decide) ?_
  refine lv_istore (lv' := [(15, .int 0), (14, .int 0), (13, .int (-1)), (12, .int (-1)), (4, .int 1), (11, .int (nI d)), (8, .int (nI a)), (7, .int sp), (5, .int (nI dd)), (2, .int f), (3, .int g), (1, .ref a0), (0, .ref b)]) hx hb dL_law_333 hl (by decide) rfl (fun ls hl => ?_)
  refine lv_iload hx hb dL_law_335 (lv_at hl 2 rfl) ?_
  refine lv_if_ge (tgt := 344) hx hb dL_law_337 (by decide) (fun c_ => absurd c_ (by decide)) (fun _ => ?_)
  refine lv_iconst (v := 0) hx hb dL_law_340 (by decide) ?_
  refine lv_goto (tgt := 350) hx hb dL_law_341 (by decide) ?_
  refine lv_istore (lv' := [(16, .int 0), (15, .int 0), (14, .int 0), (13, .int (-1)), (12, .int (-1)), (4, .int 1), (11, .int (nI d)), (8, .int (nI a)), (7, .int sp), (5, .int (nI dd)), (2, .int f), (3, .int g), (1, .ref a0), (0, .ref b)]) hx hb dL_law_350 hl (by decide) rfl (fun ls hl => ?_)
  refine lv_aload_n hx hb dL_law_352 rfl (lv_at hl 12 rfl) ?_
  refine jr_callV (n := 0) (C := RX2) (As := []) (rest := []) S (c_X2_pile a0 aR aF aG cI vrow vdrawn vtr vled vmov vw1 vw2 veo veb vh1 vt1 vp1 vk1 vg1 vh2 vt2 vp2 vk2 vg2) gL_law_X2_pile rfl (by decide +kernel) rfl ⟨⟨rfl, rfl⟩, ⟨Nat.le_of_ble_eq_true rfl, Nat.le_of_ble_eq_true rfl⟩, Nat.le_of_ble_eq_true rfl, Nat.le_of_ble_eq_true rfl⟩ hP hK hN [0, 1, 2, 3] [0] rfl rfl 0 2 rfl rfl rfl (lv_nil hl) rfl (Nat.le_of_ble_eq_true rfl) dL_law_353 ?_
  refine lv_istore (lv' := [(17, .int (j_X2_pile vdrawn)), (16, .int 0), (15, .int 0), (14, .int 0), (13, .int (-1)), (12, .int (-1)), (4, .int 1), (11, .int (nI d)), (8, .int (nI a)), (7, .int sp), (5, .int (nI dd)), (2, .int f), (3, .int g), (1, .ref a0), (0, .ref b)]) hx hb dL_law_356 hl (by decide) rfl (fun ls hl => ?_)
  refine lv_iload hx hb dL_law_358 (lv_at hl 6 rfl) ?_
  refine lv_if_eq (tgt := 378) hx hb dL_law_360 (by decide) (fun c_ => absurd c_ (by decide)) (fun _ => ?_)
  refine lv_aload_n hx hb dL_law_363 rfl (lv_at hl 13 rfl) ?_
  refine lv_iload hx hb dL_law_364 (lv_at hl 7 rfl) ?_
  refine jw_callVi (n := 1) (C := RX2) (As := [.int (nI d)]) (rest := []) (wr := []) (wn := [(a0, .inr (2, [.ref aR, .ref aF, .ref aG, .int (j_X2_play_vdrawn vdrawn vtr vled vmov (nI d)), .int vtr, .int (j_X2_play_vled vled (nI d)), .int (j_X2_play_vmov vrow vdrawn vtr vled vmov vh1 vh2 (nI d)), .int (j_X2_play_vw1 vrow vdrawn vtr vled vmov vw1 vh1 vp1 vg1 vh2 vp2 vg2 (nI d)), .int (j_X2_play_vw2 vrow vdrawn vtr vled vmov vw2 vh1 vp1 vg1 vh2 vp2 vg2 (nI d)), va_rf veo, .int veb])), (aF, .inr (0, [.long (j_X2_play_vh1 vrow vdrawn vtr vled vmov vh1 (nI d)), .long (j_X2_play_vt1 vtr vled vmov vt1 (nI d)), .int (j_X2_play_vp1 vtr vled vmov vp1 vg1 (nI d)), .int (j_X2_play_vk1 vtr vled vmov vk1 (nI d)), .int (j_X2_play_vg1 vled vg1)])), (aG, .inr (0, [.long (j_X2_play_vh2 vrow vdrawn vtr vled vmov vh2 (nI d)), .long (j_X2_play_vt2 vtr vled vmov vt2 (nI d)), .int (j_X2_play_vp2 vtr vled vmov vp2 vg2 (nI d)), .int (j_X2_play_vk2 vtr vled vmov vk2 (nI d)), .int (j_X2_play_vg2 vled vg2)])), (aR, .inl (cI, 42, .inl vrow))]) S (c_X2_play a0 aR aF aG cI vrow vdrawn vtr vled vmov vw1 vw2 veo veb vh1 vt1 vp1 vk1 vg1 vh2 vt2 vp2 vk2 vg2 (nI d) hcd hR0) gL_law_X2_play rfl (by decide +kernel) rfl ⟨⟨rfl, rfl⟩, ⟨Nat.le_of_ble_eq_true rfl, Nat.le_of_ble_eq_true rfl⟩, Nat.le_of_ble_eq_true rfl, Nat.le_of_ble_eq_true rfl⟩ hP hK hN hD hS hA [0, 1, 2, 3] [] [0, 1, 2, 3] [0] rfl rfl ⟨rfl, rfl, rfl⟩ (by decide) rfl rfl 0 2 rfl rfl rfl (lv_nil hl) rfl (Nat.le_of_ble_eq_true rfl) dL_law_366 (fun H locs hP hD hS => ?_)
  refine lv_iload hx hb dL_law_369 (lv_at hl 4 rfl) ?_
  refine lv_icmp_ne (tgt := 378) hx hb dL_law_371 (by decide) (fun c_ => absurd c1 c_) (fun _ => ?_)
  refine lv_iconst (v := 1) hx hb dL_law_374 (by decide) ?_
  refine lv_goto (tgt := 379) hx hb dL_law_375 (by decide) ?_
  refine lv_istore (lv' := [(4, .int 1), (17, .int (j_X2_pile vdrawn)), (16, .int 0), (15, .int 0), (14, .int 0), (13, .int (-1)), (12, .int (-1)), (11, .int (nI d)), (8, .int (nI a)), (7, .int sp), (5, .int (nI dd)), (2, .int f), (3, .int g), (1, .ref a0), (0, .ref b)]) hx hb dL_law_379 hl (by decide) rfl (fun ls hl => ?_)
  refine lv_iload hx hb dL_law_381 (lv_at hl 5 rfl) ?_
  refine lv_if_ge (tgt := 421) hx hb dL_law_383 (by decide) (fun c_ => absurd c_ (by decide)) (fun _ => ?_)
  refine lv_iload hx hb dL_law_386 (lv_at hl 0 rfl) ?_
  refine lv_if_eq (tgt := 415) hx hb dL_law_388 (by decide) (fun c_ => absurd c_ (by decide)) (fun _ => ?_)
  refine lv_aload_n hx hb dL_law_391 rfl (lv_at hl 13 rfl) ?_
  refine jr_callV (n := 0) (C := RX2) (As := []) (rest := []) S (c_X2_led a0 aR aF aG cI vrow (j_X2_play_vdrawn vdrawn vtr vled vmov (nI d)) vtr (j_X2_play_vled vled (nI d)) (j_X2_play_vmov vrow vdrawn vtr vled vmov vh1 vh2 (nI d)) (j_X2_play_vw1 vrow vdrawn vtr vled vmov vw1 vh1 vp1 vg1 vh2 vp2 vg2 (nI d)) (j_X2_play_vw2 vrow vdrawn vtr vled vmov vw2 vh1 vp1 vg1 vh2 vp2 vg2 (nI d)) veo veb (j_X2_play_vh1 vrow vdrawn vtr vled vmov vh1 (nI d)) (j_X2_play_vt1 vtr vled vmov vt1 (nI d)) (j_X2_play_vp1 vtr vled vmov vp1 vg1 (nI d)) (j_X2_play_vk1 vtr vled vmov vk1 (nI d)) (j_X2_play_vg1 vled vg1) (j_X2_play_vh2 vrow vdrawn vtr vled vmov vh2 (nI d)) (j_X2_play_vt2 vtr vled vmov vt2 (nI d)) (j_X2_play_vp2 vtr vled vmov vp2 vg2 (nI d)) (j_X2_play_vk2 vtr vled vmov vk2 (nI d)) (j_X2_play_vg2 vled vg2)) gL_law_X2_led rfl (by decide +kernel) rfl ⟨⟨rfl, rfl⟩, ⟨Nat.le_of_ble_eq_true rfl, Nat.le_of_ble_eq_true rfl⟩, Nat.le_of_ble_eq_true rfl, Nat.le_of_ble_eq_true rfl⟩ hP hK hN [0, 1, 2, 3] [0] rfl rfl 0 2 rfl rfl rfl (lv_nil hl) rfl (Nat.le_of_ble_eq_true rfl) dL_law_392 ?_
  refine lv_iload hx hb dL_law_395 (lv_at hl 7 rfl) ?_
  refine lv_icmp_ne (tgt := 415) hx hb dL_law_397 (by decide) (fun c_ => absurd c2 c_) (fun _ => ?_)
  refine lv_aload_n hx hb dL_law_400 rfl (lv_at hl 13 rfl) ?_
  refine jr_callV (n := 0) (C := RX2) (As := []) (rest := []) S (c_X2_turn a0 aR aF aG cI vrow (j_X2_play_vdrawn vdrawn vtr vled vmov (nI d)) vtr (j_X2_play_vled vled (nI d)) (j_X2_play_vmov vrow vdrawn vtr vled vmov vh1 vh2 (nI d)) (j_X2_play_vw1 vrow vdrawn vtr vled vmov vw1 vh1 vp1 vg1 vh2 vp2 vg2 (nI d)) (j_X2_play_vw2 vrow vdrawn vtr vled vmov vw2 vh1 vp1 vg1 vh2 vp2 vg2 (nI d)) veo veb (j_X2_play_vh1 vrow vdrawn vtr vled vmov vh1 (nI d)) (j_X2_play_vt1 vtr vled vmov vt1 (nI d)) (j_X2_play_vp1 vtr vled vmov vp1 vg1 (nI d)) (j_X2_play_vk1 vtr vled vmov vk1 (nI d)) (j_X2_play_vg1 vled vg1) (j_X2_play_vh2 vrow vdrawn vtr vled vmov vh2 (nI d)) (j_X2_play_vt2 vtr vled vmov vt2 (nI d)) (j_X2_play_vp2 vtr vled vmov vp2 vg2 (nI d)) (j_X2_play_vk2 vtr vled vmov vk2 (nI d)) (j_X2_play_vg2 vled vg2)) gL_law_X2_turn rfl (by decide +kernel) rfl ⟨⟨rfl, rfl⟩, ⟨Nat.le_of_ble_eq_true rfl, Nat.le_of_ble_eq_true rfl⟩, Nat.le_of_ble_eq_true rfl, Nat.le_of_ble_eq_true rfl⟩ hP hK hN [0, 1, 2, 3] [0] rfl rfl 0 2 rfl rfl rfl (lv_nil hl) rfl (Nat.le_of_ble_eq_true rfl) dL_law_401 ?_
  refine lv_iconst (v := 1) hx hb dL_law_404 (by decide) ?_
  refine lv_iload hx hb dL_law_405 (lv_at hl 8 rfl) ?_
  refine lv_isub hx hb dL_law_407 ?_
  refine lv_icmp_ne (tgt := 415) hx hb dL_law_408 (by decide) (fun c_ => absurd c3 c_) (fun _ => ?_)
  refine lv_iconst (v := 1) hx hb dL_law_411 (by decide) ?_
  refine lv_goto (tgt := 416) hx hb dL_law_412 (by decide) ?_
  refine lv_istore (lv' := [(4, .int 1), (17, .int (j_X2_pile vdrawn)), (16, .int 0), (15, .int 0), (14, .int 0), (13, .int (-1)), (12, .int (-1)), (11, .int (nI d)), (8, .int (nI a)), (7, .int sp), (5, .int (nI dd)), (2, .int f), (3, .int g), (1, .ref a0), (0, .ref b)]) hx hb dL_law_416 hl (by decide) rfl (fun ls hl => ?_)
  refine lv_goto (tgt := 608) hx hb dL_law_418 (by decide) ?_
  refine lv_iload hx hb dL_law_608 (lv_at hl 0 rfl) ?_
  refine lv_if_eq (tgt := 626) hx hb dL_law_610 (by decide) (fun c_ => absurd c_ (by decide)) (fun _ => ?_)
  refine lv_aload_n hx hb dL_law_613 rfl (lv_at hl 13 rfl) ?_
  refine lv_iload hx hb dL_law_614 (lv_at hl 9 rfl) ?_
  refine jr_callS (n := 2) (As := [.ref a0, .int sp]) (rest := []) S (c_L_isLaidRight a0 aR aF aG cI vrow (j_X2_play_vdrawn vdrawn vtr vled vmov (nI d)) vtr (j_X2_play_vled vled (nI d)) (j_X2_play_vmov vrow vdrawn vtr vled vmov vh1 vh2 (nI d)) (j_X2_play_vw1 vrow vdrawn vtr vled vmov vw1 vh1 vp1 vg1 vh2 vp2 vg2 (nI d)) (j_X2_play_vw2 vrow vdrawn vtr vled vmov vw2 vh1 vp1 vg1 vh2 vp2 vg2 (nI d)) veo veb (j_X2_play_vh1 vrow vdrawn vtr vled vmov vh1 (nI d)) (j_X2_play_vt1 vtr vled vmov vt1 (nI d)) (j_X2_play_vp1 vtr vled vmov vp1 vg1 (nI d)) (j_X2_play_vk1 vtr vled vmov vk1 (nI d)) (j_X2_play_vg1 vled vg1) (j_X2_play_vh2 vrow vdrawn vtr vled vmov vh2 (nI d)) (j_X2_play_vt2 vtr vled vmov vt2 (nI d)) (j_X2_play_vp2 vtr vled vmov vp2 vg2 (nI d)) (j_X2_play_vk2 vtr vled vmov vk2 (nI d)) (j_X2_play_vg2 vled vg2) sp hV') gL_law_L_isLaidRight rfl (by decide +kernel) rfl ⟨⟨rfl, rfl⟩, ⟨Nat.le_of_ble_eq_true rfl, Nat.le_of_ble_eq_true rfl⟩, Nat.le_of_ble_eq_true rfl, Nat.le_of_ble_eq_true rfl⟩ hP hK hN [0, 1, 2, 3] [0] rfl rfl (lv_nil hl) rfl (Nat.le_of_ble_eq_true rfl) dL_law_616 ?_
  refine lv_if_eq (tgt := 626) hx hb dL_law_619 (by decide) (fun c_ => absurd c_ (by decide)) (fun _ => ?_)
  refine lv_iconst (v := 1) hx hb dL_law_622 (by decide) ?_
  refine lv_goto (tgt := 627) hx hb dL_law_623 (by decide) ?_
  refine lv_istore (lv' := [(4, .int 1), (17, .int (j_X2_pile vdrawn)), (16, .int 0), (15, .int 0), (14, .int 0), (13, .int (-1)), (12, .int (-1)), (11, .int (nI d)), (8, .int (nI a)), (7, .int sp), (5, .int (nI dd)), (2, .int f), (3, .int g), (1, .ref a0), (0, .ref b)]) hx hb dL_law_627 hl (by decide) rfl (fun ls hl => ?_)
  refine lv_goto (tgt := 102) hx hb dL_law_629 (by decide) ?_
  exact kk vrow (j_X2_play_vdrawn vdrawn vtr vled vmov (nI d)) vtr (j_X2_play_vled vled (nI d)) (j_X2_play_vmov vrow vdrawn vtr vled vmov vh1 vh2 (nI d)) (j_X2_play_vw1 vrow vdrawn vtr vled vmov vw1 vh1 vp1 vg1 vh2 vp2 vg2 (nI d)) (j_X2_play_vw2 vrow vdrawn vtr vled vmov vw2 vh1 vp1 vg1 vh2 vp2 vg2 (nI d)) veo veb (j_X2_play_vh1 vrow vdrawn vtr vled vmov vh1 (nI d)) (j_X2_play_vt1 vtr vled vmov vt1 (nI d)) (j_X2_play_vp1 vtr vled vmov vp1 vg1 (nI d)) (j_X2_play_vk1 vtr vled vmov vk1 (nI d)) (j_X2_play_vg1 vled vg1) (j_X2_play_vh2 vrow vdrawn vtr vled vmov vh2 (nI d)) (j_X2_play_vt2 vtr vled vmov vt2 (nI d)) (j_X2_play_vp2 vtr vled vmov vp2 vg2 (nI d)) (j_X2_play_vk2 vtr vled vmov vk2 (nI d)) (j_X2_play_vg2 vled vg2) sp _ _ H locs ls hn' hR' hP hD hS (lv_sub hl [9, 10, 0, 11, 12, 13, 14] rfl)
set_option maxRecDepth 100000 in
set_option maxHeartbeats 8000000 in
theorem pz_trick (X : pz_X l p s m c b L xs D A cI) (hR : pq_R vrow vdrawn vtr vled vmov vw1 vw2 vh1 vt1 vp1 vk1 vg1 vh2 vt2 vp2 vk2 vg2 sp f g n up) (hab : a + a' = 1) (hm : vmov = nI a) {d : Nat} (hd : d < 42) (ud : up d = nI a) (hR0 : j_X2_reasonAgainst vdrawn vtr vled vmov vh1 vh2 (nI d) = 0) {l9 : Nat} (hl9 : l9 < 42) (hled : vled = nI l9) (ul : ¬ l9 = d) (hP : va_P D vwCl (jC a0 aR aF aG cI vrow vdrawn vtr vled vmov vw1 vw2 veo veb vh1 vt1 vp1 vk1 vg1 vh2 vt2 vp2 vk2 vg2) H) (hD : va_D A (jC a0 aR aF aG cI vrow vdrawn vtr vled vmov vw1 vw2 veo veb vh1 vt1 vp1 vk1 vg1 vh2 vt2 vp2 vk2 vg2)) (hS : va_S A s.heap H locs) (hl : lv_has ls 19 [(11, .int (nI d)), (8, .int (nI a)), (7, .int sp), (5, .int (nI dd)), (4, .int 1), (2, .int f), (3, .int g), (1, .ref a0), (0, .ref b)])
    (kk : ∀ (y_vrow : Nat → Int32) (y_vdrawn y_vtr y_vled y_vmov y_vw1 y_vw2 : Int32) (y_veo : Option Nat) (y_veb : Int32) (y_vh1 y_vt1 : Int64) (y_vp1 y_vk1 y_vg1 : Int32) (y_vh2 y_vt2 : Int64) (y_vp2 y_vk2 y_vg2 : Int32) (sp' : Int32) (n' : Nat) (up' : Nat → Int32) (H1 : Heap) (locs1 : List Loc) (ls1 : Array Slot), n' + 1 = n → pq_R y_vrow y_vdrawn y_vtr y_vled y_vmov y_vw1 y_vw2 y_vh1 y_vt1 y_vp1 y_vk1 y_vg1 y_vh2 y_vt2 y_vp2 y_vk2 y_vg2 sp' f g n' up' → va_P D vwCl (jC a0 aR aF aG cI y_vrow y_vdrawn y_vtr y_vled y_vmov y_vw1 y_vw2 y_veo y_veb y_vh1 y_vt1 y_vp1 y_vk1 y_vg1 y_vh2 y_vt2 y_vp2 y_vk2 y_vg2) H1 → va_D A (jC a0 aR aF aG cI y_vrow y_vdrawn y_vtr y_vled y_vmov y_vw1 y_vw2 y_veo y_veb y_vh1 y_vt1 y_vp1 y_vk1 y_vg1 y_vh2 y_vt2 y_vp2 y_vk2 y_vg2) → va_S A s.heap H1 locs1 → lv_has ls1 19 [(7, .int sp'), (5, .int (nI dd)), (4, .int 1), (2, .int f), (3, .int g), (1, .ref a0), (0, .ref b)] → W p l e room_1 s m #[Value.ref b] below meth c H1 locs1 190 1523 Q (F0 m 102 ls1 [])) : W p l e room_1 s m #[Value.ref b] below meth c H locs 190 1523 Q (F0 m 259 ls []) := by
  obtain ⟨S, hN, hXs, hbl, hbA, hA, hK, hL260⟩ := id X
  obtain ⟨hx, hb, hml, hown, hts⟩ := id S
  obtain ⟨E, hV⟩ := pq_view hR
  have ha : a < 2 := by omega
  have hAa := pz_arch ha
  have hcd : ¬ j_X2_isCard (nI d) = 0 := by rw [zr_isCard hd]; decide
  obtain ⟨up', n', τ, hn', hτ, hw, hpl, hpt, htk, ⟨uc, ulq⟩, ⟨hg1, hg2⟩, hpi, hmo, hR'⟩ := pq_replyT hR hd hR0 hl9 hled
  obtain ⟨E', hV'⟩ := pq_view hR'
  have hpo := hV'.1
  have hAt := pz_arch hτ
  have hA0 : ¬ j_X2_isArchivist 0 = 0 := by decide
  have hA1 : ¬ j_X2_isArchivist 1 = 0 := by decide
  have hcl : ¬ j_X2_isCard (nI l9) = 0 := by rw [zr_isCard hl9]; decide
  have hl1 : ¬ vled = (-1) := by rw [hled]; exact zs_nm1 l9 hl9
  have hl2 : ¬ vled = nI d := fun z => ul ((nI_eq (by omega) (by omega)).mp (hled.symm.trans z))
  have el : j_X2_led vled = nI l9 := hled
  have c1 : 0 ≤ nI l9 := nI_pos' (by omega)
  have c2 : 0 ≤ nI τ := nI_pos' (by omega)
  have e4 : 4 + nI τ = nI (4 + τ) := nI_add 4 τ
  have k5 : j_X2_points (j_X2_play_vp1 vtr vled vmov vp1 vg1 (nI d)) (j_X2_play_vp2 vtr vled vmov vp2 vg2 (nI d)) (nI τ) = (((j_X2_points vp1 vp2 (nI τ)) + (j_L_worth (nI d))) + (j_L_worth (nI l9))) + ((if j_X2_gloves vg1 vg2 (nI τ) = 1 then 5 * (((if nI d ≤ 39 then 0 else 1) : Int32) + ((if nI l9 ≤ 39 then 0 else 1) : Int32)) else 0) : Int32) := by rw [pq_lw d hd, pq_lw l9 hl9]; exact hpt
  have k7 : j_X2_placeOf vtr (j_X2_play_vled vled (nI d)) (j_X2_play_vh1 vrow vdrawn vtr vled vmov vh1 (nI d)) (j_X2_play_vt1 vtr vled vmov vt1 (nI d)) (j_X2_play_vh2 vrow vdrawn vtr vled vmov vh2 (nI d)) (j_X2_play_vt2 vtr vled vmov vt2 (nI d)) (nI d) = 4 + (nI τ) := (hpo d hd).1.trans (uc.trans e4.symm)
  have k8 : j_X2_placeOf vtr (j_X2_play_vled vled (nI d)) (j_X2_play_vh1 vrow vdrawn vtr vled vmov vh1 (nI d)) (j_X2_play_vt1 vtr vled vmov vt1 (nI d)) (j_X2_play_vh2 vrow vdrawn vtr vled vmov vh2 (nI d)) (j_X2_play_vt2 vtr vled vmov vt2 (nI d)) (nI l9) = 4 + (nI τ) := (hpo l9 hl9).1.trans (ulq.trans e4.symm)
  rcases hmo with hmo | hmo
  · have k9 : j_X2_isPlaying (j_X2_play_vmov vrow vdrawn vtr vled vmov vh1 vh2 (nI d)) = 0 := by unfold j_X2_isPlaying; rw [if_pos hmo]
    refine lv_iload hx hb dL_law_259 (lv_at hl 4 rfl) ?_
    refine lv_if_eq (tgt := 275) hx hb dL_law_261 (by decide) (fun c_ => absurd c_ (by decide)) (fun _ => ?_)
    refine lv_aload_n hx hb dL_law_264 rfl (lv_at hl 7 rfl) ?_
    refine jr_callS (n := 1) (As := [.ref a0]) (rest := []) S (c_L_isFree a0 aR aF aG cI vrow vdrawn vtr vled vmov vw1 vw2 veo veb vh1 vt1 vp1 vk1 vg1 vh2 vt2 vp2 vk2 vg2 hV hab hm) gL_law_L_isFree rfl (by decide +kernel) rfl ⟨⟨rfl, rfl⟩, ⟨Nat.le_of_ble_eq_true rfl, Nat.le_of_ble_eq_true rfl⟩, Nat.le_of_ble_eq_true rfl, Nat.le_of_ble_eq_true rfl⟩ hP hK hN [0, 1, 2, 3] [0] rfl rfl (lv_nil hl) rfl (Nat.le_of_ble_eq_true rfl) dL_law_265 ?_
    refine lv_if_eq (tgt := 275) hx hb dL_law_268 (by decide) (fun c_ => absurd c_ (by decide)) (fun _ => ?_)
    refine lv_iconst (v := 1) hx hb dL_law_271 (by decide) ?_
    refine lv_goto (tgt := 276) hx hb dL_law_272 (by decide) ?_
    refine lv_istore (lv' := [(4, .int 1), (11, .int (nI d)), (8, .int (nI a)), (7, .int sp), (5, .int (nI dd)), (2, .int f), (3, .int g), (1, .ref a0), (0, .ref b)]) hx hb dL_law_276 hl (by decide) rfl (fun ls hl => ?_)
    refine lv_aload_n hx hb dL_law_278 rfl (lv_at hl 7 rfl) ?_
    refine jr_callV (n := 0) (C := RX2) (As := []) (rest := []) S (c_X2_led a0 aR aF aG cI vrow vdrawn vtr vled vmov vw1 vw2 veo veb vh1 vt1 vp1 vk1 vg1 vh2 vt2 vp2 vk2 vg2) gL_law_X2_led rfl (by decide +kernel) rfl ⟨⟨rfl, rfl⟩, ⟨Nat.le_of_ble_eq_true rfl, Nat.le_of_ble_eq_true rfl⟩, Nat.le_of_ble_eq_true rfl, Nat.le_of_ble_eq_true rfl⟩ hP hK hN [0, 1, 2, 3] [0] rfl rfl 0 2 rfl rfl rfl (lv_nil hl) rfl (Nat.le_of_ble_eq_true rfl) dL_law_279 ?_
    rw [el]
    refine lv_istore (lv' := [(12, .int (nI l9)), (4, .int 1), (11, .int (nI d)), (8, .int (nI a)), (7, .int sp), (5, .int (nI dd)), (2, .int f), (3, .int g), (1, .ref a0), (0, .ref b)]) hx hb dL_law_282 hl (by decide) rfl (fun ls hl => ?_)
    refine lv_iload hx hb dL_law_284 (lv_at hl 0 rfl) ?_
    refine lv_if_ge (tgt := 293) hx hb dL_law_286 (by decide) (fun _ => ?_) (fun c_ => absurd c1 c_)
    refine lv_aload_n hx hb dL_law_293 rfl (lv_at hl 8 rfl) ?_
    refine lv_iload hx hb dL_law_294 (lv_at hl 2 rfl) ?_
    refine jr_callV (n := 1) (C := RX2) (As := [.int (nI d)]) (rest := []) S (c_X2_wouldTake a0 aR aF aG cI vrow vdrawn vtr vled vmov vw1 vw2 veo veb vh1 vt1 vp1 vk1 vg1 vh2 vt2 vp2 vk2 vg2 (nI d) hcd hl1 hl2) gL_law_X2_wouldTake rfl (by decide +kernel) rfl ⟨⟨rfl, rfl⟩, ⟨Nat.le_of_ble_eq_true rfl, Nat.le_of_ble_eq_true rfl⟩, Nat.le_of_ble_eq_true rfl, Nat.le_of_ble_eq_true rfl⟩ hP hK hN [0, 1, 2, 3] [0] rfl rfl 0 2 rfl rfl rfl (lv_nil hl) rfl (Nat.le_of_ble_eq_true rfl) dL_law_296 ?_
    rw [hw]
    refine lv_istore (lv' := [(13, .int (nI τ)), (12, .int (nI l9)), (4, .int 1), (11, .int (nI d)), (8, .int (nI a)), (7, .int sp), (5, .int (nI dd)), (2, .int f), (3, .int g), (1, .ref a0), (0, .ref b)]) hx hb dL_law_299 hl (by decide) rfl (fun ls hl => ?_)
    refine lv_iload hx hb dL_law_301 (lv_at hl 0 rfl) ?_
    refine lv_if_ge (tgt := 310) hx hb dL_law_303 (by decide) (fun _ => ?_) (fun c_ => absurd c2 c_)
    refine lv_aload_n hx hb dL_law_310 rfl (lv_at hl 9 rfl) ?_
    refine lv_iload hx hb dL_law_311 (lv_at hl 0 rfl) ?_
    refine jr_callV (n := 1) (C := RX2) (As := [.int (nI τ)]) (rest := []) S (c_X2_gloves a0 aR aF aG cI vrow vdrawn vtr vled vmov vw1 vw2 veo veb vh1 vt1 vp1 vk1 vg1 vh2 vt2 vp2 vk2 vg2 (nI τ) hAt) gL_law_X2_gloves rfl (by decide +kernel) rfl ⟨⟨rfl, rfl⟩, ⟨Nat.le_of_ble_eq_true rfl, Nat.le_of_ble_eq_true rfl⟩, Nat.le_of_ble_eq_true rfl, Nat.le_of_ble_eq_true rfl⟩ hP hK hN [0, 1, 2, 3] [0] rfl rfl 0 2 rfl rfl rfl (lv_nil hl) rfl (Nat.le_of_ble_eq_true rfl) dL_law_313 ?_
    refine lv_istore (lv' := [(14, .int (j_X2_gloves vg1 vg2 (nI τ))), (13, .int (nI τ)), (12, .int (nI l9)), (4, .int 1), (11, .int (nI d)), (8, .int (nI a)), (7, .int sp), (5, .int (nI dd)), (2, .int f), (3, .int g), (1, .ref a0), (0, .ref b)]) hx hb dL_law_316 hl (by decide) rfl (fun ls hl => ?_)
    refine lv_iload hx hb dL_law_318 (lv_at hl 1 rfl) ?_
    refine lv_if_ge (tgt := 327) hx hb dL_law_320 (by decide) (fun _ => ?_) (fun c_ => absurd c2 c_)
    refine lv_aload_n hx hb dL_law_327 rfl (lv_at hl 10 rfl) ?_
    refine lv_iload hx hb dL_law_328 (lv_at hl 1 rfl) ?_
    refine jr_callV (n := 1) (C := RX2) (As := [.int (nI τ)]) (rest := []) S (c_X2_points a0 aR aF aG cI vrow vdrawn vtr vled vmov vw1 vw2 veo veb vh1 vt1 vp1 vk1 vg1 vh2 vt2 vp2 vk2 vg2 (nI τ) hAt) gL_law_X2_points rfl (by decide +kernel) rfl ⟨⟨rfl, rfl⟩, ⟨Nat.le_of_ble_eq_true rfl, Nat.le_of_ble_eq_true rfl⟩, Nat.le_of_ble_eq_true rfl, Nat.le_of_ble_eq_true rfl⟩ hP hK hN [0, 1, 2, 3] [0] rfl rfl 0 2 rfl rfl rfl (lv_nil hl) rfl (Nat.le_of_ble_eq_true rfl) dL_law_330 ?_
    refine lv_istore (lv' := [(15, .int (j_X2_points vp1 vp2 (nI τ))), (14, .int (j_X2_gloves vg1 vg2 (nI τ))), (13, .int (nI τ)), (12, .int (nI l9)), (4, .int 1), (11, .int (nI d)), (8, .int (nI a)), (7, .int sp), (5, .int (nI dd)), (2, .int f), (3, .int g), (1, .ref a0), (0, .ref b)]) hx hb dL_law_333 hl (by decide) rfl (fun ls hl => ?_)
    refine lv_iload hx hb dL_law_335 (lv_at hl 2 rfl) ?_
    refine lv_if_ge (tgt := 344) hx hb dL_law_337 (by decide) (fun _ => ?_) (fun c_ => absurd c2 c_)
    refine lv_aload_n hx hb dL_law_344 rfl (lv_at hl 11 rfl) ?_
    refine lv_iload hx hb dL_law_345 (lv_at hl 2 rfl) ?_
    refine jr_callV (n := 1) (C := RX2) (As := [.int (nI τ)]) (rest := []) S (c_X2_tricks a0 aR aF aG cI vrow vdrawn vtr vled vmov vw1 vw2 veo veb vh1 vt1 vp1 vk1 vg1 vh2 vt2 vp2 vk2 vg2 (nI τ) hAt) gL_law_X2_tricks rfl (by decide +kernel) rfl ⟨⟨rfl, rfl⟩, ⟨Nat.le_of_ble_eq_true rfl, Nat.le_of_ble_eq_true rfl⟩, Nat.le_of_ble_eq_true rfl, Nat.le_of_ble_eq_true rfl⟩ hP hK hN [0, 1, 2, 3] [0] rfl rfl 0 2 rfl rfl rfl (lv_nil hl) rfl (Nat.le_of_ble_eq_true rfl) dL_law_347 ?_
    refine lv_istore (lv' := [(16, .int (j_X2_tricks vk1 vk2 (nI τ))), (15, .int (j_X2_points vp1 vp2 (nI τ))), (14, .int (j_X2_gloves vg1 vg2 (nI τ))), (13, .int (nI τ)), (12, .int (nI l9)), (4, .int 1), (11, .int (nI d)), (8, .int (nI a)), (7, .int sp), (5, .int (nI dd)), (2, .int f), (3, .int g), (1, .ref a0), (0, .ref b)]) hx hb dL_law_350 hl (by decide) rfl (fun ls hl => ?_)
    refine lv_aload_n hx hb dL_law_352 rfl (lv_at hl 12 rfl) ?_
    refine jr_callV (n := 0) (C := RX2) (As := []) (rest := []) S (c_X2_pile a0 aR aF aG cI vrow vdrawn vtr vled vmov vw1 vw2 veo veb vh1 vt1 vp1 vk1 vg1 vh2 vt2 vp2 vk2 vg2) gL_law_X2_pile rfl (by decide +kernel) rfl ⟨⟨rfl, rfl⟩, ⟨Nat.le_of_ble_eq_true rfl, Nat.le_of_ble_eq_true rfl⟩, Nat.le_of_ble_eq_true rfl, Nat.le_of_ble_eq_true rfl⟩ hP hK hN [0, 1, 2, 3] [0] rfl rfl 0 2 rfl rfl rfl (lv_nil hl) rfl (Nat.le_of_ble_eq_true rfl) dL_law_353 ?_
    refine lv_istore (lv' := [(17, .int (j_X2_pile vdrawn)), (16, .int (j_X2_tricks vk1 vk2 (nI τ))), (15, .int (j_X2_points vp1 vp2 (nI τ))), (14, .int (j_X2_gloves vg1 vg2 (nI τ))), (13, .int (nI τ)), (12, .int (nI l9)), (4, .int 1), (11, .int (nI d)), (8, .int (nI a)), (7, .int sp), (5, .int (nI dd)), (2, .int f), (3, .int g), (1, .ref a0), (0, .ref b)]) hx hb dL_law_356 hl (by decide) rfl (fun ls hl => ?_)
    refine lv_iload hx hb dL_law_358 (lv_at hl 6 rfl) ?_
    refine lv_if_eq (tgt := 378) hx hb dL_law_360 (by decide) (fun c_ => absurd c_ (by decide)) (fun _ => ?_)
    refine lv_aload_n hx hb dL_law_363 rfl (lv_at hl 13 rfl) ?_
    refine lv_iload hx hb dL_law_364 (lv_at hl 7 rfl) ?_
    refine jw_callVi (n := 1) (C := RX2) (As := [.int (nI d)]) (rest := []) (wr := []) (wn := [(a0, .inr (2, [.ref aR, .ref aF, .ref aG, .int (j_X2_play_vdrawn vdrawn vtr vled vmov (nI d)), .int vtr, .int (j_X2_play_vled vled (nI d)), .int (j_X2_play_vmov vrow vdrawn vtr vled vmov vh1 vh2 (nI d)), .int (j_X2_play_vw1 vrow vdrawn vtr vled vmov vw1 vh1 vp1 vg1 vh2 vp2 vg2 (nI d)), .int (j_X2_play_vw2 vrow vdrawn vtr vled vmov vw2 vh1 vp1 vg1 vh2 vp2 vg2 (nI d)), va_rf veo, .int veb])), (aF, .inr (0, [.long (j_X2_play_vh1 vrow vdrawn vtr vled vmov vh1 (nI d)), .long (j_X2_play_vt1 vtr vled vmov vt1 (nI d)), .int (j_X2_play_vp1 vtr vled vmov vp1 vg1 (nI d)), .int (j_X2_play_vk1 vtr vled vmov vk1 (nI d)), .int (j_X2_play_vg1 vled vg1)])), (aG, .inr (0, [.long (j_X2_play_vh2 vrow vdrawn vtr vled vmov vh2 (nI d)), .long (j_X2_play_vt2 vtr vled vmov vt2 (nI d)), .int (j_X2_play_vp2 vtr vled vmov vp2 vg2 (nI d)), .int (j_X2_play_vk2 vtr vled vmov vk2 (nI d)), .int (j_X2_play_vg2 vled vg2)])), (aR, .inl (cI, 42, .inl vrow))]) S (c_X2_play a0 aR aF aG cI vrow vdrawn vtr vled vmov vw1 vw2 veo veb vh1 vt1 vp1 vk1 vg1 vh2 vt2 vp2 vk2 vg2 (nI d) hcd hR0) gL_law_X2_play rfl (by decide +kernel) rfl ⟨⟨rfl, rfl⟩, ⟨Nat.le_of_ble_eq_true rfl, Nat.le_of_ble_eq_true rfl⟩, Nat.le_of_ble_eq_true rfl, Nat.le_of_ble_eq_true rfl⟩ hP hK hN hD hS hA [0, 1, 2, 3] [] [0, 1, 2, 3] [0] rfl rfl ⟨rfl, rfl, rfl⟩ (by decide) rfl rfl 0 2 rfl rfl rfl (lv_nil hl) rfl (Nat.le_of_ble_eq_true rfl) dL_law_366 (fun H locs hP hD hS => ?_)
    refine lv_iload hx hb dL_law_369 (lv_at hl 4 rfl) ?_
    refine lv_icmp_ne (tgt := 378) hx hb dL_law_371 (by decide) (fun c_ => absurd hpl c_) (fun _ => ?_)
    refine lv_iconst (v := 1) hx hb dL_law_374 (by decide) ?_
    refine lv_goto (tgt := 379) hx hb dL_law_375 (by decide) ?_
    refine lv_istore (lv' := [(4, .int 1), (17, .int (j_X2_pile vdrawn)), (16, .int (j_X2_tricks vk1 vk2 (nI τ))), (15, .int (j_X2_points vp1 vp2 (nI τ))), (14, .int (j_X2_gloves vg1 vg2 (nI τ))), (13, .int (nI τ)), (12, .int (nI l9)), (11, .int (nI d)), (8, .int (nI a)), (7, .int sp), (5, .int (nI dd)), (2, .int f), (3, .int g), (1, .ref a0), (0, .ref b)]) hx hb dL_law_379 hl (by decide) rfl (fun ls hl => ?_)
    refine lv_iload hx hb dL_law_381 (lv_at hl 5 rfl) ?_
    refine lv_if_ge (tgt := 421) hx hb dL_law_383 (by decide) (fun _ => ?_) (fun c_ => absurd c2 c_)
    refine lv_iload hx hb dL_law_421 (lv_at hl 7 rfl) ?_
    refine lv_bipush (v := 39) hx hb dL_law_423 (by decide) ?_
    have jn433 : W p l e room_1 s m #[Value.ref b] below meth c H locs 190 1523 Q (F0 m 433 ls (.int ((if nI d ≤ 39 then 0 else 1) : Int32) :: [])) := by
      refine lv_iload hx hb dL_law_433 (lv_at hl 6 rfl) ?_
      refine lv_bipush (v := 39) hx hb dL_law_435 (by decide) ?_
      have jn445 : W p l e room_1 s m #[Value.ref b] below meth c H locs 190 1523 Q (F0 m 445 ls (.int ((if nI l9 ≤ 39 then 0 else 1) : Int32) :: [.int ((if nI d ≤ 39 then 0 else 1) : Int32)])) := by
        refine lv_iadd hx hb dL_law_445 ?_
        refine lv_istore (lv' := [(18, .int (((if nI d ≤ 39 then 0 else 1) : Int32) + ((if nI l9 ≤ 39 then 0 else 1) : Int32))), (4, .int 1), (17, .int (j_X2_pile vdrawn)), (16, .int (j_X2_tricks vk1 vk2 (nI τ))), (15, .int (j_X2_points vp1 vp2 (nI τ))), (14, .int (j_X2_gloves vg1 vg2 (nI τ))), (13, .int (nI τ)), (12, .int (nI l9)), (11, .int (nI d)), (8, .int (nI a)), (7, .int sp), (5, .int (nI dd)), (2, .int f), (3, .int g), (1, .ref a0), (0, .ref b)]) hx hb dL_law_446 hl (by decide) rfl (fun ls hl => ?_)
        refine lv_iload hx hb dL_law_448 (lv_at hl 10 rfl) ?_
        refine lv_iload hx hb dL_law_450 (lv_at hl 5 rfl) ?_
        refine lv_iconst (v := 1) hx hb dL_law_452 (by decide) ?_
        have jn462 : W p l e room_1 s m #[Value.ref b] below meth c H locs 190 1523 Q (F0 m 462 ls (.int ((if j_X2_gloves vg1 vg2 (nI τ) = 1 then ((if nI d ≤ 39 then 0 else 1) : Int32) + ((if nI l9 ≤ 39 then 0 else 1) : Int32) else 0) : Int32) :: [.int sp])) := by
          refine lv_iadd hx hb dL_law_462 ?_
          refine lv_istore (lv' := [(7, .int (sp + ((if j_X2_gloves vg1 vg2 (nI τ) = 1 then ((if nI d ≤ 39 then 0 else 1) : Int32) + ((if nI l9 ≤ 39 then 0 else 1) : Int32) else 0) : Int32))), (18, .int (((if nI d ≤ 39 then 0 else 1) : Int32) + ((if nI l9 ≤ 39 then 0 else 1) : Int32))), (4, .int 1), (17, .int (j_X2_pile vdrawn)), (16, .int (j_X2_tricks vk1 vk2 (nI τ))), (15, .int (j_X2_points vp1 vp2 (nI τ))), (14, .int (j_X2_gloves vg1 vg2 (nI τ))), (13, .int (nI τ)), (12, .int (nI l9)), (11, .int (nI d)), (8, .int (nI a)), (5, .int (nI dd)), (2, .int f), (3, .int g), (1, .ref a0), (0, .ref b)]) hx hb dL_law_463 hl (by decide) rfl (fun ls hl => ?_)
          refine lv_iload hx hb dL_law_465 (lv_at hl 2 rfl) ?_
          refine lv_if_eq (tgt := 605) hx hb dL_law_467 (by decide) (fun c_ => absurd c_ (by decide)) (fun _ => ?_)
          refine lv_aload_n hx hb dL_law_470 rfl (lv_at hl 14 rfl) ?_
          refine lv_iload hx hb dL_law_471 (lv_at hl 7 rfl) ?_
          refine jr_callV (n := 1) (C := RX2) (As := [.int (nI τ)]) (rest := []) S (c_X2_points a0 aR aF aG cI vrow (j_X2_play_vdrawn vdrawn vtr vled vmov (nI d)) vtr (j_X2_play_vled vled (nI d)) (j_X2_play_vmov vrow vdrawn vtr vled vmov vh1 vh2 (nI d)) (j_X2_play_vw1 vrow vdrawn vtr vled vmov vw1 vh1 vp1 vg1 vh2 vp2 vg2 (nI d)) (j_X2_play_vw2 vrow vdrawn vtr vled vmov vw2 vh1 vp1 vg1 vh2 vp2 vg2 (nI d)) veo veb (j_X2_play_vh1 vrow vdrawn vtr vled vmov vh1 (nI d)) (j_X2_play_vt1 vtr vled vmov vt1 (nI d)) (j_X2_play_vp1 vtr vled vmov vp1 vg1 (nI d)) (j_X2_play_vk1 vtr vled vmov vk1 (nI d)) (j_X2_play_vg1 vled vg1) (j_X2_play_vh2 vrow vdrawn vtr vled vmov vh2 (nI d)) (j_X2_play_vt2 vtr vled vmov vt2 (nI d)) (j_X2_play_vp2 vtr vled vmov vp2 vg2 (nI d)) (j_X2_play_vk2 vtr vled vmov vk2 (nI d)) (j_X2_play_vg2 vled vg2) (nI τ) hAt) gL_law_X2_points rfl (by decide +kernel) rfl ⟨⟨rfl, rfl⟩, ⟨Nat.le_of_ble_eq_true rfl, Nat.le_of_ble_eq_true rfl⟩, Nat.le_of_ble_eq_true rfl, Nat.le_of_ble_eq_true rfl⟩ hP hK hN [0, 1, 2, 3] [0] rfl rfl 0 2 rfl rfl rfl (lv_nil hl) rfl (Nat.le_of_ble_eq_true rfl) dL_law_473 ?_
          refine lv_iload hx hb dL_law_476 (lv_at hl 5 rfl) ?_
          refine lv_iload hx hb dL_law_478 (lv_at hl 9 rfl) ?_
          refine jr_callS (n := 1) (As := [.int (nI d)]) (rest := [.int (j_X2_points vp1 vp2 (nI τ)), .int (j_X2_points (j_X2_play_vp1 vtr vled vmov vp1 vg1 (nI d)) (j_X2_play_vp2 vtr vled vmov vp2 vg2 (nI d)) (nI τ))]) S (c_L_worth (nI d)) gL_law_L_worth rfl (by decide +kernel) rfl ⟨⟨rfl, rfl⟩, ⟨Nat.le_of_ble_eq_true rfl, Nat.le_of_ble_eq_true rfl⟩, Nat.le_of_ble_eq_true rfl, Nat.le_of_ble_eq_true rfl⟩ hP hK hN [] [] rfl rfl (lv_nil hl) rfl (Nat.le_of_ble_eq_true rfl) dL_law_480 ?_
          refine lv_iadd hx hb dL_law_483 ?_
          refine lv_iload hx hb dL_law_484 (lv_at hl 8 rfl) ?_
          refine jr_callS (n := 1) (As := [.int (nI l9)]) (rest := [.int ((j_X2_points vp1 vp2 (nI τ)) + (j_L_worth (nI d))), .int (j_X2_points (j_X2_play_vp1 vtr vled vmov vp1 vg1 (nI d)) (j_X2_play_vp2 vtr vled vmov vp2 vg2 (nI d)) (nI τ))]) S (c_L_worth (nI l9)) gL_law_L_worth rfl (by decide +kernel) rfl ⟨⟨rfl, rfl⟩, ⟨Nat.le_of_ble_eq_true rfl, Nat.le_of_ble_eq_true rfl⟩, Nat.le_of_ble_eq_true rfl, Nat.le_of_ble_eq_true rfl⟩ hP hK hN [] [] rfl rfl (lv_nil hl) rfl (Nat.le_of_ble_eq_true rfl) dL_law_486 ?_
          refine lv_iadd hx hb dL_law_489 ?_
          refine lv_iload hx hb dL_law_490 (lv_at hl 6 rfl) ?_
          refine lv_iconst (v := 1) hx hb dL_law_492 (by decide) ?_
          have jn504 : W p l e room_1 s m #[Value.ref b] below meth c H locs 190 1523 Q (F0 m 504 ls (.int ((if j_X2_gloves vg1 vg2 (nI τ) = 1 then 5 * (((if nI d ≤ 39 then 0 else 1) : Int32) + ((if nI l9 ≤ 39 then 0 else 1) : Int32)) else 0) : Int32) :: [.int (((j_X2_points vp1 vp2 (nI τ)) + (j_L_worth (nI d))) + (j_L_worth (nI l9))), .int (j_X2_points (j_X2_play_vp1 vtr vled vmov vp1 vg1 (nI d)) (j_X2_play_vp2 vtr vled vmov vp2 vg2 (nI d)) (nI τ))])) := by
            refine lv_iadd hx hb dL_law_504 ?_
            refine lv_icmp_ne (tgt := 605) hx hb dL_law_505 (by decide) (fun c_ => absurd k5 c_) (fun _ => ?_)
            refine lv_aload_n hx hb dL_law_508 rfl (lv_at hl 14 rfl) ?_
            refine lv_iload hx hb dL_law_509 (lv_at hl 7 rfl) ?_
            refine jr_callV (n := 1) (C := RX2) (As := [.int (nI τ)]) (rest := []) S (c_X2_tricks a0 aR aF aG cI vrow (j_X2_play_vdrawn vdrawn vtr vled vmov (nI d)) vtr (j_X2_play_vled vled (nI d)) (j_X2_play_vmov vrow vdrawn vtr vled vmov vh1 vh2 (nI d)) (j_X2_play_vw1 vrow vdrawn vtr vled vmov vw1 vh1 vp1 vg1 vh2 vp2 vg2 (nI d)) (j_X2_play_vw2 vrow vdrawn vtr vled vmov vw2 vh1 vp1 vg1 vh2 vp2 vg2 (nI d)) veo veb (j_X2_play_vh1 vrow vdrawn vtr vled vmov vh1 (nI d)) (j_X2_play_vt1 vtr vled vmov vt1 (nI d)) (j_X2_play_vp1 vtr vled vmov vp1 vg1 (nI d)) (j_X2_play_vk1 vtr vled vmov vk1 (nI d)) (j_X2_play_vg1 vled vg1) (j_X2_play_vh2 vrow vdrawn vtr vled vmov vh2 (nI d)) (j_X2_play_vt2 vtr vled vmov vt2 (nI d)) (j_X2_play_vp2 vtr vled vmov vp2 vg2 (nI d)) (j_X2_play_vk2 vtr vled vmov vk2 (nI d)) (j_X2_play_vg2 vled vg2) (nI τ) hAt) gL_law_X2_tricks rfl (by decide +kernel) rfl ⟨⟨rfl, rfl⟩, ⟨Nat.le_of_ble_eq_true rfl, Nat.le_of_ble_eq_true rfl⟩, Nat.le_of_ble_eq_true rfl, Nat.le_of_ble_eq_true rfl⟩ hP hK hN [0, 1, 2, 3] [0] rfl rfl 0 2 rfl rfl rfl (lv_nil hl) rfl (Nat.le_of_ble_eq_true rfl) dL_law_511 ?_
            refine lv_iload hx hb dL_law_514 (lv_at hl 4 rfl) ?_
            refine lv_iconst (v := 1) hx hb dL_law_516 (by decide) ?_
            refine lv_iadd hx hb dL_law_517 ?_
            refine lv_icmp_ne (tgt := 605) hx hb dL_law_518 (by decide) (fun c_ => absurd htk c_) (fun _ => ?_)
            refine lv_aload_n hx hb dL_law_521 rfl (lv_at hl 14 rfl) ?_
            refine lv_iload hx hb dL_law_522 (lv_at hl 9 rfl) ?_
            refine jr_callV (n := 1) (C := RX2) (As := [.int (nI d)]) (rest := []) S (c_X2_placeOf a0 aR aF aG cI vrow (j_X2_play_vdrawn vdrawn vtr vled vmov (nI d)) vtr (j_X2_play_vled vled (nI d)) (j_X2_play_vmov vrow vdrawn vtr vled vmov vh1 vh2 (nI d)) (j_X2_play_vw1 vrow vdrawn vtr vled vmov vw1 vh1 vp1 vg1 vh2 vp2 vg2 (nI d)) (j_X2_play_vw2 vrow vdrawn vtr vled vmov vw2 vh1 vp1 vg1 vh2 vp2 vg2 (nI d)) veo veb (j_X2_play_vh1 vrow vdrawn vtr vled vmov vh1 (nI d)) (j_X2_play_vt1 vtr vled vmov vt1 (nI d)) (j_X2_play_vp1 vtr vled vmov vp1 vg1 (nI d)) (j_X2_play_vk1 vtr vled vmov vk1 (nI d)) (j_X2_play_vg1 vled vg1) (j_X2_play_vh2 vrow vdrawn vtr vled vmov vh2 (nI d)) (j_X2_play_vt2 vtr vled vmov vt2 (nI d)) (j_X2_play_vp2 vtr vled vmov vp2 vg2 (nI d)) (j_X2_play_vk2 vtr vled vmov vk2 (nI d)) (j_X2_play_vg2 vled vg2) (nI d) hcd) gL_law_X2_placeOf rfl (by decide +kernel) rfl ⟨⟨rfl, rfl⟩, ⟨Nat.le_of_ble_eq_true rfl, Nat.le_of_ble_eq_true rfl⟩, Nat.le_of_ble_eq_true rfl, Nat.le_of_ble_eq_true rfl⟩ hP hK hN [0, 1, 2, 3] [0] rfl rfl 0 2 rfl rfl rfl (lv_nil hl) rfl (Nat.le_of_ble_eq_true rfl) dL_law_524 ?_
            refine lv_iconst (v := 4) hx hb dL_law_527 (by decide) ?_
            refine lv_iload hx hb dL_law_528 (lv_at hl 7 rfl) ?_
            refine lv_iadd hx hb dL_law_530 ?_
            refine lv_icmp_ne (tgt := 605) hx hb dL_law_531 (by decide) (fun c_ => absurd k7 c_) (fun _ => ?_)
            refine lv_aload_n hx hb dL_law_534 rfl (lv_at hl 14 rfl) ?_
            refine lv_iload hx hb dL_law_535 (lv_at hl 8 rfl) ?_
            refine jr_callV (n := 1) (C := RX2) (As := [.int (nI l9)]) (rest := []) S (c_X2_placeOf a0 aR aF aG cI vrow (j_X2_play_vdrawn vdrawn vtr vled vmov (nI d)) vtr (j_X2_play_vled vled (nI d)) (j_X2_play_vmov vrow vdrawn vtr vled vmov vh1 vh2 (nI d)) (j_X2_play_vw1 vrow vdrawn vtr vled vmov vw1 vh1 vp1 vg1 vh2 vp2 vg2 (nI d)) (j_X2_play_vw2 vrow vdrawn vtr vled vmov vw2 vh1 vp1 vg1 vh2 vp2 vg2 (nI d)) veo veb (j_X2_play_vh1 vrow vdrawn vtr vled vmov vh1 (nI d)) (j_X2_play_vt1 vtr vled vmov vt1 (nI d)) (j_X2_play_vp1 vtr vled vmov vp1 vg1 (nI d)) (j_X2_play_vk1 vtr vled vmov vk1 (nI d)) (j_X2_play_vg1 vled vg1) (j_X2_play_vh2 vrow vdrawn vtr vled vmov vh2 (nI d)) (j_X2_play_vt2 vtr vled vmov vt2 (nI d)) (j_X2_play_vp2 vtr vled vmov vp2 vg2 (nI d)) (j_X2_play_vk2 vtr vled vmov vk2 (nI d)) (j_X2_play_vg2 vled vg2) (nI l9) hcl) gL_law_X2_placeOf rfl (by decide +kernel) rfl ⟨⟨rfl, rfl⟩, ⟨Nat.le_of_ble_eq_true rfl, Nat.le_of_ble_eq_true rfl⟩, Nat.le_of_ble_eq_true rfl, Nat.le_of_ble_eq_true rfl⟩ hP hK hN [0, 1, 2, 3] [0] rfl rfl 0 2 rfl rfl rfl (lv_nil hl) rfl (Nat.le_of_ble_eq_true rfl) dL_law_537 ?_
            refine lv_iconst (v := 4) hx hb dL_law_540 (by decide) ?_
            refine lv_iload hx hb dL_law_541 (lv_at hl 7 rfl) ?_
            refine lv_iadd hx hb dL_law_543 ?_
            refine lv_icmp_ne (tgt := 605) hx hb dL_law_544 (by decide) (fun c_ => absurd k8 c_) (fun _ => ?_)
            refine lv_aload_n hx hb dL_law_547 rfl (lv_at hl 14 rfl) ?_
            refine lv_iconst (v := 0) hx hb dL_law_548 (by decide) ?_
            refine jr_callV (n := 1) (C := RX2) (As := [.int 0]) (rest := []) S (c_X2_gloves a0 aR aF aG cI vrow (j_X2_play_vdrawn vdrawn vtr vled vmov (nI d)) vtr (j_X2_play_vled vled (nI d)) (j_X2_play_vmov vrow vdrawn vtr vled vmov vh1 vh2 (nI d)) (j_X2_play_vw1 vrow vdrawn vtr vled vmov vw1 vh1 vp1 vg1 vh2 vp2 vg2 (nI d)) (j_X2_play_vw2 vrow vdrawn vtr vled vmov vw2 vh1 vp1 vg1 vh2 vp2 vg2 (nI d)) veo veb (j_X2_play_vh1 vrow vdrawn vtr vled vmov vh1 (nI d)) (j_X2_play_vt1 vtr vled vmov vt1 (nI d)) (j_X2_play_vp1 vtr vled vmov vp1 vg1 (nI d)) (j_X2_play_vk1 vtr vled vmov vk1 (nI d)) (j_X2_play_vg1 vled vg1) (j_X2_play_vh2 vrow vdrawn vtr vled vmov vh2 (nI d)) (j_X2_play_vt2 vtr vled vmov vt2 (nI d)) (j_X2_play_vp2 vtr vled vmov vp2 vg2 (nI d)) (j_X2_play_vk2 vtr vled vmov vk2 (nI d)) (j_X2_play_vg2 vled vg2) 0 hA0) gL_law_X2_gloves rfl (by decide +kernel) rfl ⟨⟨rfl, rfl⟩, ⟨Nat.le_of_ble_eq_true rfl, Nat.le_of_ble_eq_true rfl⟩, Nat.le_of_ble_eq_true rfl, Nat.le_of_ble_eq_true rfl⟩ hP hK hN [0, 1, 2, 3] [0] rfl rfl 0 2 rfl rfl rfl (lv_nil hl) rfl (Nat.le_of_ble_eq_true rfl) dL_law_549 ?_
            refine lv_iconst (v := 1) hx hb dL_law_552 (by decide) ?_
            refine lv_icmp_eq (tgt := 605) hx hb dL_law_553 (by decide) (fun c_ => absurd c_ hg1) (fun _ => ?_)
            refine lv_aload_n hx hb dL_law_556 rfl (lv_at hl 14 rfl) ?_
            refine lv_iconst (v := 1) hx hb dL_law_557 (by decide) ?_
            refine jr_callV (n := 1) (C := RX2) (As := [.int 1]) (rest := []) S (c_X2_gloves a0 aR aF aG cI vrow (j_X2_play_vdrawn vdrawn vtr vled vmov (nI d)) vtr (j_X2_play_vled vled (nI d)) (j_X2_play_vmov vrow vdrawn vtr vled vmov vh1 vh2 (nI d)) (j_X2_play_vw1 vrow vdrawn vtr vled vmov vw1 vh1 vp1 vg1 vh2 vp2 vg2 (nI d)) (j_X2_play_vw2 vrow vdrawn vtr vled vmov vw2 vh1 vp1 vg1 vh2 vp2 vg2 (nI d)) veo veb (j_X2_play_vh1 vrow vdrawn vtr vled vmov vh1 (nI d)) (j_X2_play_vt1 vtr vled vmov vt1 (nI d)) (j_X2_play_vp1 vtr vled vmov vp1 vg1 (nI d)) (j_X2_play_vk1 vtr vled vmov vk1 (nI d)) (j_X2_play_vg1 vled vg1) (j_X2_play_vh2 vrow vdrawn vtr vled vmov vh2 (nI d)) (j_X2_play_vt2 vtr vled vmov vt2 (nI d)) (j_X2_play_vp2 vtr vled vmov vp2 vg2 (nI d)) (j_X2_play_vk2 vtr vled vmov vk2 (nI d)) (j_X2_play_vg2 vled vg2) 1 hA1) gL_law_X2_gloves rfl (by decide +kernel) rfl ⟨⟨rfl, rfl⟩, ⟨Nat.le_of_ble_eq_true rfl, Nat.le_of_ble_eq_true rfl⟩, Nat.le_of_ble_eq_true rfl, Nat.le_of_ble_eq_true rfl⟩ hP hK hN [0, 1, 2, 3] [0] rfl rfl 0 2 rfl rfl rfl (lv_nil hl) rfl (Nat.le_of_ble_eq_true rfl) dL_law_558 ?_
            refine lv_iconst (v := 1) hx hb dL_law_561 (by decide) ?_
            refine lv_icmp_eq (tgt := 605) hx hb dL_law_562 (by decide) (fun c_ => absurd c_ hg2) (fun _ => ?_)
            refine lv_aload_n hx hb dL_law_565 rfl (lv_at hl 14 rfl) ?_
            refine jr_callV (n := 0) (C := RX2) (As := []) (rest := []) S (c_X2_pile a0 aR aF aG cI vrow (j_X2_play_vdrawn vdrawn vtr vled vmov (nI d)) vtr (j_X2_play_vled vled (nI d)) (j_X2_play_vmov vrow vdrawn vtr vled vmov vh1 vh2 (nI d)) (j_X2_play_vw1 vrow vdrawn vtr vled vmov vw1 vh1 vp1 vg1 vh2 vp2 vg2 (nI d)) (j_X2_play_vw2 vrow vdrawn vtr vled vmov vw2 vh1 vp1 vg1 vh2 vp2 vg2 (nI d)) veo veb (j_X2_play_vh1 vrow vdrawn vtr vled vmov vh1 (nI d)) (j_X2_play_vt1 vtr vled vmov vt1 (nI d)) (j_X2_play_vp1 vtr vled vmov vp1 vg1 (nI d)) (j_X2_play_vk1 vtr vled vmov vk1 (nI d)) (j_X2_play_vg1 vled vg1) (j_X2_play_vh2 vrow vdrawn vtr vled vmov vh2 (nI d)) (j_X2_play_vt2 vtr vled vmov vt2 (nI d)) (j_X2_play_vp2 vtr vled vmov vp2 vg2 (nI d)) (j_X2_play_vk2 vtr vled vmov vk2 (nI d)) (j_X2_play_vg2 vled vg2)) gL_law_X2_pile rfl (by decide +kernel) rfl ⟨⟨rfl, rfl⟩, ⟨Nat.le_of_ble_eq_true rfl, Nat.le_of_ble_eq_true rfl⟩, Nat.le_of_ble_eq_true rfl, Nat.le_of_ble_eq_true rfl⟩ hP hK hN [0, 1, 2, 3] [0] rfl rfl 0 2 rfl rfl rfl (lv_nil hl) rfl (Nat.le_of_ble_eq_true rfl) dL_law_566 ?_
            refine lv_iload hx hb dL_law_569 (lv_at hl 3 rfl) ?_
            have jn582 : W p l e room_1 s m #[Value.ref b] below meth c H locs 190 1523 Q (F0 m 582 ls (.int ((if j_X2_pile vdrawn ≤ 0 then 0 else (j_X2_pile vdrawn) - 2) : Int32) :: [.int (j_X2_pile (j_X2_play_vdrawn vdrawn vtr vled vmov (nI d)))])) := by
              refine lv_icmp_ne (tgt := 605) hx hb dL_law_582 (by decide) (fun c_ => absurd hpi c_) (fun _ => ?_)
              refine lv_aload_n hx hb dL_law_585 rfl (lv_at hl 14 rfl) ?_
              refine jr_callV (n := 0) (C := RX2) (As := []) (rest := []) S (c_X2_isPlaying a0 aR aF aG cI vrow (j_X2_play_vdrawn vdrawn vtr vled vmov (nI d)) vtr (j_X2_play_vled vled (nI d)) (j_X2_play_vmov vrow vdrawn vtr vled vmov vh1 vh2 (nI d)) (j_X2_play_vw1 vrow vdrawn vtr vled vmov vw1 vh1 vp1 vg1 vh2 vp2 vg2 (nI d)) (j_X2_play_vw2 vrow vdrawn vtr vled vmov vw2 vh1 vp1 vg1 vh2 vp2 vg2 (nI d)) veo veb (j_X2_play_vh1 vrow vdrawn vtr vled vmov vh1 (nI d)) (j_X2_play_vt1 vtr vled vmov vt1 (nI d)) (j_X2_play_vp1 vtr vled vmov vp1 vg1 (nI d)) (j_X2_play_vk1 vtr vled vmov vk1 (nI d)) (j_X2_play_vg1 vled vg1) (j_X2_play_vh2 vrow vdrawn vtr vled vmov vh2 (nI d)) (j_X2_play_vt2 vtr vled vmov vt2 (nI d)) (j_X2_play_vp2 vtr vled vmov vp2 vg2 (nI d)) (j_X2_play_vk2 vtr vled vmov vk2 (nI d)) (j_X2_play_vg2 vled vg2)) gL_law_X2_isPlaying rfl (by decide +kernel) rfl ⟨⟨rfl, rfl⟩, ⟨Nat.le_of_ble_eq_true rfl, Nat.le_of_ble_eq_true rfl⟩, Nat.le_of_ble_eq_true rfl, Nat.le_of_ble_eq_true rfl⟩ hP hK hN [0, 1, 2, 3] [0] rfl rfl 0 2 rfl rfl rfl (lv_nil hl) rfl (Nat.le_of_ble_eq_true rfl) dL_law_586 ?_
              refine lv_if_eq (tgt := 601) hx hb dL_law_589 (by decide) (fun _ => ?_) (fun c_ => absurd k9 c_)
              refine lv_iconst (v := 1) hx hb dL_law_601 (by decide) ?_
              refine lv_goto (tgt := 606) hx hb dL_law_602 (by decide) ?_
              refine lv_istore (lv' := [(4, .int 1), (7, .int (sp + ((if j_X2_gloves vg1 vg2 (nI τ) = 1 then ((if nI d ≤ 39 then 0 else 1) : Int32) + ((if nI l9 ≤ 39 then 0 else 1) : Int32) else 0) : Int32))), (18, .int (((if nI d ≤ 39 then 0 else 1) : Int32) + ((if nI l9 ≤ 39 then 0 else 1) : Int32))), (17, .int (j_X2_pile vdrawn)), (16, .int (j_X2_tricks vk1 vk2 (nI τ))), (15, .int (j_X2_points vp1 vp2 (nI τ))), (14, .int (j_X2_gloves vg1 vg2 (nI τ))), (13, .int (nI τ)), (12, .int (nI l9)), (11, .int (nI d)), (8, .int (nI a)), (5, .int (nI dd)), (2, .int f), (3, .int g), (1, .ref a0), (0, .ref b)]) hx hb dL_law_606 hl (by decide) rfl (fun ls hl => ?_)
              refine lv_iload hx hb dL_law_608 (lv_at hl 0 rfl) ?_
              refine lv_if_eq (tgt := 626) hx hb dL_law_610 (by decide) (fun c_ => absurd c_ (by decide)) (fun _ => ?_)
              refine lv_aload_n hx hb dL_law_613 rfl (lv_at hl 14 rfl) ?_
              refine lv_iload hx hb dL_law_614 (lv_at hl 1 rfl) ?_
              refine jr_callS (n := 2) (As := [.ref a0, .int (sp + ((if j_X2_gloves vg1 vg2 (nI τ) = 1 then ((if nI d ≤ 39 then 0 else 1) : Int32) + ((if nI l9 ≤ 39 then 0 else 1) : Int32) else 0) : Int32))]) (rest := []) S (c_L_isLaidRight a0 aR aF aG cI vrow (j_X2_play_vdrawn vdrawn vtr vled vmov (nI d)) vtr (j_X2_play_vled vled (nI d)) (j_X2_play_vmov vrow vdrawn vtr vled vmov vh1 vh2 (nI d)) (j_X2_play_vw1 vrow vdrawn vtr vled vmov vw1 vh1 vp1 vg1 vh2 vp2 vg2 (nI d)) (j_X2_play_vw2 vrow vdrawn vtr vled vmov vw2 vh1 vp1 vg1 vh2 vp2 vg2 (nI d)) veo veb (j_X2_play_vh1 vrow vdrawn vtr vled vmov vh1 (nI d)) (j_X2_play_vt1 vtr vled vmov vt1 (nI d)) (j_X2_play_vp1 vtr vled vmov vp1 vg1 (nI d)) (j_X2_play_vk1 vtr vled vmov vk1 (nI d)) (j_X2_play_vg1 vled vg1) (j_X2_play_vh2 vrow vdrawn vtr vled vmov vh2 (nI d)) (j_X2_play_vt2 vtr vled vmov vt2 (nI d)) (j_X2_play_vp2 vtr vled vmov vp2 vg2 (nI d)) (j_X2_play_vk2 vtr vled vmov vk2 (nI d)) (j_X2_play_vg2 vled vg2) (sp + ((if j_X2_gloves vg1 vg2 (nI τ) = 1 then ((if nI d ≤ 39 then 0 else 1) : Int32) + ((if nI l9 ≤ 39 then 0 else 1) : Int32) else 0) : Int32)) hV') gL_law_L_isLaidRight rfl (by decide +kernel) rfl ⟨⟨rfl, rfl⟩, ⟨Nat.le_of_ble_eq_true rfl, Nat.le_of_ble_eq_true rfl⟩, Nat.le_of_ble_eq_true rfl, Nat.le_of_ble_eq_true rfl⟩ hP hK hN [0, 1, 2, 3] [0] rfl rfl (lv_nil hl) rfl (Nat.le_of_ble_eq_true rfl) dL_law_616 ?_
              refine lv_if_eq (tgt := 626) hx hb dL_law_619 (by decide) (fun c_ => absurd c_ (by decide)) (fun _ => ?_)
              refine lv_iconst (v := 1) hx hb dL_law_622 (by decide) ?_
              refine lv_goto (tgt := 627) hx hb dL_law_623 (by decide) ?_
              refine lv_istore (lv' := [(4, .int 1), (7, .int (sp + ((if j_X2_gloves vg1 vg2 (nI τ) = 1 then ((if nI d ≤ 39 then 0 else 1) : Int32) + ((if nI l9 ≤ 39 then 0 else 1) : Int32) else 0) : Int32))), (18, .int (((if nI d ≤ 39 then 0 else 1) : Int32) + ((if nI l9 ≤ 39 then 0 else 1) : Int32))), (17, .int (j_X2_pile vdrawn)), (16, .int (j_X2_tricks vk1 vk2 (nI τ))), (15, .int (j_X2_points vp1 vp2 (nI τ))), (14, .int (j_X2_gloves vg1 vg2 (nI τ))), (13, .int (nI τ)), (12, .int (nI l9)), (11, .int (nI d)), (8, .int (nI a)), (5, .int (nI dd)), (2, .int f), (3, .int g), (1, .ref a0), (0, .ref b)]) hx hb dL_law_627 hl (by decide) rfl (fun ls hl => ?_)
              refine lv_goto (tgt := 102) hx hb dL_law_629 (by decide) ?_
              exact kk vrow (j_X2_play_vdrawn vdrawn vtr vled vmov (nI d)) vtr (j_X2_play_vled vled (nI d)) (j_X2_play_vmov vrow vdrawn vtr vled vmov vh1 vh2 (nI d)) (j_X2_play_vw1 vrow vdrawn vtr vled vmov vw1 vh1 vp1 vg1 vh2 vp2 vg2 (nI d)) (j_X2_play_vw2 vrow vdrawn vtr vled vmov vw2 vh1 vp1 vg1 vh2 vp2 vg2 (nI d)) veo veb (j_X2_play_vh1 vrow vdrawn vtr vled vmov vh1 (nI d)) (j_X2_play_vt1 vtr vled vmov vt1 (nI d)) (j_X2_play_vp1 vtr vled vmov vp1 vg1 (nI d)) (j_X2_play_vk1 vtr vled vmov vk1 (nI d)) (j_X2_play_vg1 vled vg1) (j_X2_play_vh2 vrow vdrawn vtr vled vmov vh2 (nI d)) (j_X2_play_vt2 vtr vled vmov vt2 (nI d)) (j_X2_play_vp2 vtr vled vmov vp2 vg2 (nI d)) (j_X2_play_vk2 vtr vled vmov vk2 (nI d)) (j_X2_play_vg2 vled vg2) (sp + ((if j_X2_gloves vg1 vg2 (nI τ) = 1 then ((if nI d ≤ 39 then 0 else 1) : Int32) + ((if nI l9 ≤ 39 then 0 else 1) : Int32) else 0) : Int32)) _ _ H locs ls hn' hR' hP hD hS (lv_sub hl [1, 11, 0, 12, 13, 14, 15] rfl)
            refine lv_if_le (tgt := 581) hx hb dL_law_571 (by decide) (fun c_5 => ?_) (fun c_5 => ?_)
            · skip
              refine lv_iconst (v := 0) hx hb dL_law_581 (by decide) ?_
              exact jr_eqi (by simp only [id, if_pos c1, if_pos c2, if_pos hpl, if_pos k5, if_pos htk, if_pos k7, if_pos k8, if_neg hg1, if_neg hg2, if_pos hpi, if_pos k9, if_pos c_5]) jn582
            · skip
              refine lv_iload hx hb dL_law_574 (lv_at hl 3 rfl) ?_
              refine lv_iconst (v := 2) hx hb dL_law_576 (by decide) ?_
              refine lv_isub hx hb dL_law_577 ?_
              refine lv_goto (tgt := 582) hx hb dL_law_578 (by decide) ?_
              exact jr_eqi (by simp only [id, if_pos c1, if_pos c2, if_pos hpl, if_pos k5, if_pos htk, if_pos k7, if_pos k8, if_neg hg1, if_neg hg2, if_pos hpi, if_pos k9, if_neg c_5]) jn582
          refine lv_icmp_ne (tgt := 503) hx hb dL_law_493 (by decide) (fun c_4 => ?_) (fun c_4 => ?_)
          · skip
            refine lv_iconst (v := 0) hx hb dL_law_503 (by decide) ?_
            exact jr_eqi (by simp only [id, if_pos c1, if_pos c2, if_pos hpl, if_pos k5, if_pos htk, if_pos k7, if_pos k8, if_neg hg1, if_neg hg2, if_pos hpi, if_pos k9, if_neg c_4]) jn504
          · skip
            refine lv_iconst (v := 5) hx hb dL_law_496 (by decide) ?_
            refine lv_iload hx hb dL_law_497 (lv_at hl 1 rfl) ?_
            refine lv_imul hx hb dL_law_499 ?_
            refine lv_goto (tgt := 504) hx hb dL_law_500 (by decide) ?_
            exact jr_eqi (by simp only [id, if_pos c1, if_pos c2, if_pos hpl, if_pos k5, if_pos htk, if_pos k7, if_pos k8, if_neg hg1, if_neg hg2, if_pos hpi, if_pos k9, if_pos c_4]) jn504
        refine lv_icmp_ne (tgt := 461) hx hb dL_law_453 (by decide) (fun c_3 => ?_) (fun c_3 => ?_)
        · skip
          refine lv_iconst (v := 0) hx hb dL_law_461 (by decide) ?_
          exact jr_eqi (by simp only [id, if_pos c1, if_pos c2, if_pos hpl, if_pos k5, if_pos htk, if_pos k7, if_pos k8, if_neg hg1, if_neg hg2, if_pos hpi, if_pos k9, if_neg c_3]) jn462
        · skip
          refine lv_iload hx hb dL_law_456 (lv_at hl 0 rfl) ?_
          refine lv_goto (tgt := 462) hx hb dL_law_458 (by decide) ?_
          exact jr_eqi (by simp only [id, if_pos c1, if_pos c2, if_pos hpl, if_pos k5, if_pos htk, if_pos k7, if_pos k8, if_neg hg1, if_neg hg2, if_pos hpi, if_pos k9, if_pos c_3]) jn462
      refine lv_icmp_le (tgt := 444) hx hb dL_law_437 (by decide) (fun c_2 => ?_) (fun c_2 => ?_)
      · skip
        refine lv_iconst (v := 0) hx hb dL_law_444 (by decide) ?_
        exact jr_eqi (by simp only [id, if_pos c1, if_pos c2, if_pos hpl, if_pos k5, if_pos htk, if_pos k7, if_pos k8, if_neg hg1, if_neg hg2, if_pos hpi, if_pos k9, if_pos c_2]) jn445
      · skip
        refine lv_iconst (v := 1) hx hb dL_law_440 (by decide) ?_
        refine lv_goto (tgt := 445) hx hb dL_law_441 (by decide) ?_
        exact jr_eqi (by simp only [id, if_pos c1, if_pos c2, if_pos hpl, if_pos k5, if_pos htk, if_pos k7, if_pos k8, if_neg hg1, if_neg hg2, if_pos hpi, if_pos k9, if_neg c_2]) jn445
    refine lv_icmp_le (tgt := 432) hx hb dL_law_425 (by decide) (fun c_1 => ?_) (fun c_1 => ?_)
    · skip
      refine lv_iconst (v := 0) hx hb dL_law_432 (by decide) ?_
      exact jr_eqi (by simp only [id, if_pos c1, if_pos c2, if_pos hpl, if_pos k5, if_pos htk, if_pos k7, if_pos k8, if_neg hg1, if_neg hg2, if_pos hpi, if_pos k9, if_pos c_1]) jn433
    · skip
      refine lv_iconst (v := 1) hx hb dL_law_428 (by decide) ?_
      refine lv_goto (tgt := 433) hx hb dL_law_429 (by decide) ?_
      exact jr_eqi (by simp only [id, if_pos c1, if_pos c2, if_pos hpl, if_pos k5, if_pos htk, if_pos k7, if_pos k8, if_neg hg1, if_neg hg2, if_pos hpi, if_pos k9, if_neg c_1]) jn433
  · have k9 : ¬ j_X2_isPlaying (j_X2_play_vmov vrow vdrawn vtr vled vmov vh1 vh2 (nI d)) = 0 := by unfold j_X2_isPlaying; rw [if_neg (by rw [hmo]; exact zs_nm1 τ (by omega))]; decide
    refine lv_iload hx hb dL_law_259 (lv_at hl 4 rfl) ?_
    refine lv_if_eq (tgt := 275) hx hb dL_law_261 (by decide) (fun c_ => absurd c_ (by decide)) (fun _ => ?_)
    refine lv_aload_n hx hb dL_law_264 rfl (lv_at hl 7 rfl) ?_
    refine jr_callS (n := 1) (As := [.ref a0]) (rest := []) S (c_L_isFree a0 aR aF aG cI vrow vdrawn vtr vled vmov vw1 vw2 veo veb vh1 vt1 vp1 vk1 vg1 vh2 vt2 vp2 vk2 vg2 hV hab hm) gL_law_L_isFree rfl (by decide +kernel) rfl ⟨⟨rfl, rfl⟩, ⟨Nat.le_of_ble_eq_true rfl, Nat.le_of_ble_eq_true rfl⟩, Nat.le_of_ble_eq_true rfl, Nat.le_of_ble_eq_true rfl⟩ hP hK hN [0, 1, 2, 3] [0] rfl rfl (lv_nil hl) rfl (Nat.le_of_ble_eq_true rfl) dL_law_265 ?_
    refine lv_if_eq (tgt := 275) hx hb dL_law_268 (by decide) (fun c_ => absurd c_ (by decide)) (fun _ => ?_)
    refine lv_iconst (v := 1) hx hb dL_law_271 (by decide) ?_
    refine lv_goto (tgt := 276) hx hb dL_law_272 (by decide) ?_
    refine lv_istore (lv' := [(4, .int 1), (11, .int (nI d)), (8, .int (nI a)), (7, .int sp), (5, .int (nI dd)), (2, .int f), (3, .int g), (1, .ref a0), (0, .ref b)]) hx hb dL_law_276 hl (by decide) rfl (fun ls hl => ?_)
    refine lv_aload_n hx hb dL_law_278 rfl (lv_at hl 7 rfl) ?_
    refine jr_callV (n := 0) (C := RX2) (As := []) (rest := []) S (c_X2_led a0 aR aF aG cI vrow vdrawn vtr vled vmov vw1 vw2 veo veb vh1 vt1 vp1 vk1 vg1 vh2 vt2 vp2 vk2 vg2) gL_law_X2_led rfl (by decide +kernel) rfl ⟨⟨rfl, rfl⟩, ⟨Nat.le_of_ble_eq_true rfl, Nat.le_of_ble_eq_true rfl⟩, Nat.le_of_ble_eq_true rfl, Nat.le_of_ble_eq_true rfl⟩ hP hK hN [0, 1, 2, 3] [0] rfl rfl 0 2 rfl rfl rfl (lv_nil hl) rfl (Nat.le_of_ble_eq_true rfl) dL_law_279 ?_
    rw [el]
    refine lv_istore (lv' := [(12, .int (nI l9)), (4, .int 1), (11, .int (nI d)), (8, .int (nI a)), (7, .int sp), (5, .int (nI dd)), (2, .int f), (3, .int g), (1, .ref a0), (0, .ref b)]) hx hb dL_law_282 hl (by decide) rfl (fun ls hl => ?_)
    refine lv_iload hx hb dL_law_284 (lv_at hl 0 rfl) ?_
    refine lv_if_ge (tgt := 293) hx hb dL_law_286 (by decide) (fun _ => ?_) (fun c_ => absurd c1 c_)
    refine lv_aload_n hx hb dL_law_293 rfl (lv_at hl 8 rfl) ?_
    refine lv_iload hx hb dL_law_294 (lv_at hl 2 rfl) ?_
    refine jr_callV (n := 1) (C := RX2) (As := [.int (nI d)]) (rest := []) S (c_X2_wouldTake a0 aR aF aG cI vrow vdrawn vtr vled vmov vw1 vw2 veo veb vh1 vt1 vp1 vk1 vg1 vh2 vt2 vp2 vk2 vg2 (nI d) hcd hl1 hl2) gL_law_X2_wouldTake rfl (by decide +kernel) rfl ⟨⟨rfl, rfl⟩, ⟨Nat.le_of_ble_eq_true rfl, Nat.le_of_ble_eq_true rfl⟩, Nat.le_of_ble_eq_true rfl, Nat.le_of_ble_eq_true rfl⟩ hP hK hN [0, 1, 2, 3] [0] rfl rfl 0 2 rfl rfl rfl (lv_nil hl) rfl (Nat.le_of_ble_eq_true rfl) dL_law_296 ?_
    rw [hw]
    refine lv_istore (lv' := [(13, .int (nI τ)), (12, .int (nI l9)), (4, .int 1), (11, .int (nI d)), (8, .int (nI a)), (7, .int sp), (5, .int (nI dd)), (2, .int f), (3, .int g), (1, .ref a0), (0, .ref b)]) hx hb dL_law_299 hl (by decide) rfl (fun ls hl => ?_)
    refine lv_iload hx hb dL_law_301 (lv_at hl 0 rfl) ?_
    refine lv_if_ge (tgt := 310) hx hb dL_law_303 (by decide) (fun _ => ?_) (fun c_ => absurd c2 c_)
    refine lv_aload_n hx hb dL_law_310 rfl (lv_at hl 9 rfl) ?_
    refine lv_iload hx hb dL_law_311 (lv_at hl 0 rfl) ?_
    refine jr_callV (n := 1) (C := RX2) (As := [.int (nI τ)]) (rest := []) S (c_X2_gloves a0 aR aF aG cI vrow vdrawn vtr vled vmov vw1 vw2 veo veb vh1 vt1 vp1 vk1 vg1 vh2 vt2 vp2 vk2 vg2 (nI τ) hAt) gL_law_X2_gloves rfl (by decide +kernel) rfl ⟨⟨rfl, rfl⟩, ⟨Nat.le_of_ble_eq_true rfl, Nat.le_of_ble_eq_true rfl⟩, Nat.le_of_ble_eq_true rfl, Nat.le_of_ble_eq_true rfl⟩ hP hK hN [0, 1, 2, 3] [0] rfl rfl 0 2 rfl rfl rfl (lv_nil hl) rfl (Nat.le_of_ble_eq_true rfl) dL_law_313 ?_
    refine lv_istore (lv' := [(14, .int (j_X2_gloves vg1 vg2 (nI τ))), (13, .int (nI τ)), (12, .int (nI l9)), (4, .int 1), (11, .int (nI d)), (8, .int (nI a)), (7, .int sp), (5, .int (nI dd)), (2, .int f), (3, .int g), (1, .ref a0), (0, .ref b)]) hx hb dL_law_316 hl (by decide) rfl (fun ls hl => ?_)
    refine lv_iload hx hb dL_law_318 (lv_at hl 1 rfl) ?_
    refine lv_if_ge (tgt := 327) hx hb dL_law_320 (by decide) (fun _ => ?_) (fun c_ => absurd c2 c_)
    refine lv_aload_n hx hb dL_law_327 rfl (lv_at hl 10 rfl) ?_
    refine lv_iload hx hb dL_law_328 (lv_at hl 1 rfl) ?_
    refine jr_callV (n := 1) (C := RX2) (As := [.int (nI τ)]) (rest := []) S (c_X2_points a0 aR aF aG cI vrow vdrawn vtr vled vmov vw1 vw2 veo veb vh1 vt1 vp1 vk1 vg1 vh2 vt2 vp2 vk2 vg2 (nI τ) hAt) gL_law_X2_points rfl (by decide +kernel) rfl ⟨⟨rfl, rfl⟩, ⟨Nat.le_of_ble_eq_true rfl, Nat.le_of_ble_eq_true rfl⟩, Nat.le_of_ble_eq_true rfl, Nat.le_of_ble_eq_true rfl⟩ hP hK hN [0, 1, 2, 3] [0] rfl rfl 0 2 rfl rfl rfl (lv_nil hl) rfl (Nat.le_of_ble_eq_true rfl) dL_law_330 ?_
    refine lv_istore (lv' := [(15, .int (j_X2_points vp1 vp2 (nI τ))), (14, .int (j_X2_gloves vg1 vg2 (nI τ))), (13, .int (nI τ)), (12, .int (nI l9)), (4, .int 1), (11, .int (nI d)), (8, .int (nI a)), (7, .int sp), (5, .int (nI dd)), (2, .int f), (3, .int g), (1, .ref a0), (0, .ref b)]) hx hb dL_law_333 hl (by decide) rfl (fun ls hl => ?_)
    refine lv_iload hx hb dL_law_335 (lv_at hl 2 rfl) ?_
    refine lv_if_ge (tgt := 344) hx hb dL_law_337 (by decide) (fun _ => ?_) (fun c_ => absurd c2 c_)
    refine lv_aload_n hx hb dL_law_344 rfl (lv_at hl 11 rfl) ?_
    refine lv_iload hx hb dL_law_345 (lv_at hl 2 rfl) ?_
    refine jr_callV (n := 1) (C := RX2) (As := [.int (nI τ)]) (rest := []) S (c_X2_tricks a0 aR aF aG cI vrow vdrawn vtr vled vmov vw1 vw2 veo veb vh1 vt1 vp1 vk1 vg1 vh2 vt2 vp2 vk2 vg2 (nI τ) hAt) gL_law_X2_tricks rfl (by decide +kernel) rfl ⟨⟨rfl, rfl⟩, ⟨Nat.le_of_ble_eq_true rfl, Nat.le_of_ble_eq_true rfl⟩, Nat.le_of_ble_eq_true rfl, Nat.le_of_ble_eq_true rfl⟩ hP hK hN [0, 1, 2, 3] [0] rfl rfl 0 2 rfl rfl rfl (lv_nil hl) rfl (Nat.le_of_ble_eq_true rfl) dL_law_347 ?_
    refine lv_istore (lv' := [(16, .int (j_X2_tricks vk1 vk2 (nI τ))), (15, .int (j_X2_points vp1 vp2 (nI τ))), (14, .int (j_X2_gloves vg1 vg2 (nI τ))), (13, .int (nI τ)), (12, .int (nI l9)), (4, .int 1), (11, .int (nI d)), (8, .int (nI a)), (7, .int sp), (5, .int (nI dd)), (2, .int f), (3, .int g), (1, .ref a0), (0, .ref b)]) hx hb dL_law_350 hl (by decide) rfl (fun ls hl => ?_)
    refine lv_aload_n hx hb dL_law_352 rfl (lv_at hl 12 rfl) ?_
    refine jr_callV (n := 0) (C := RX2) (As := []) (rest := []) S (c_X2_pile a0 aR aF aG cI vrow vdrawn vtr vled vmov vw1 vw2 veo veb vh1 vt1 vp1 vk1 vg1 vh2 vt2 vp2 vk2 vg2) gL_law_X2_pile rfl (by decide +kernel) rfl ⟨⟨rfl, rfl⟩, ⟨Nat.le_of_ble_eq_true rfl, Nat.le_of_ble_eq_true rfl⟩, Nat.le_of_ble_eq_true rfl, Nat.le_of_ble_eq_true rfl⟩ hP hK hN [0, 1, 2, 3] [0] rfl rfl 0 2 rfl rfl rfl (lv_nil hl) rfl (Nat.le_of_ble_eq_true rfl) dL_law_353 ?_
    refine lv_istore (lv' := [(17, .int (j_X2_pile vdrawn)), (16, .int (j_X2_tricks vk1 vk2 (nI τ))), (15, .int (j_X2_points vp1 vp2 (nI τ))), (14, .int (j_X2_gloves vg1 vg2 (nI τ))), (13, .int (nI τ)), (12, .int (nI l9)), (4, .int 1), (11, .int (nI d)), (8, .int (nI a)), (7, .int sp), (5, .int (nI dd)), (2, .int f), (3, .int g), (1, .ref a0), (0, .ref b)]) hx hb dL_law_356 hl (by decide) rfl (fun ls hl => ?_)
    refine lv_iload hx hb dL_law_358 (lv_at hl 6 rfl) ?_
    refine lv_if_eq (tgt := 378) hx hb dL_law_360 (by decide) (fun c_ => absurd c_ (by decide)) (fun _ => ?_)
    refine lv_aload_n hx hb dL_law_363 rfl (lv_at hl 13 rfl) ?_
    refine lv_iload hx hb dL_law_364 (lv_at hl 7 rfl) ?_
    refine jw_callVi (n := 1) (C := RX2) (As := [.int (nI d)]) (rest := []) (wr := []) (wn := [(a0, .inr (2, [.ref aR, .ref aF, .ref aG, .int (j_X2_play_vdrawn vdrawn vtr vled vmov (nI d)), .int vtr, .int (j_X2_play_vled vled (nI d)), .int (j_X2_play_vmov vrow vdrawn vtr vled vmov vh1 vh2 (nI d)), .int (j_X2_play_vw1 vrow vdrawn vtr vled vmov vw1 vh1 vp1 vg1 vh2 vp2 vg2 (nI d)), .int (j_X2_play_vw2 vrow vdrawn vtr vled vmov vw2 vh1 vp1 vg1 vh2 vp2 vg2 (nI d)), va_rf veo, .int veb])), (aF, .inr (0, [.long (j_X2_play_vh1 vrow vdrawn vtr vled vmov vh1 (nI d)), .long (j_X2_play_vt1 vtr vled vmov vt1 (nI d)), .int (j_X2_play_vp1 vtr vled vmov vp1 vg1 (nI d)), .int (j_X2_play_vk1 vtr vled vmov vk1 (nI d)), .int (j_X2_play_vg1 vled vg1)])), (aG, .inr (0, [.long (j_X2_play_vh2 vrow vdrawn vtr vled vmov vh2 (nI d)), .long (j_X2_play_vt2 vtr vled vmov vt2 (nI d)), .int (j_X2_play_vp2 vtr vled vmov vp2 vg2 (nI d)), .int (j_X2_play_vk2 vtr vled vmov vk2 (nI d)), .int (j_X2_play_vg2 vled vg2)])), (aR, .inl (cI, 42, .inl vrow))]) S (c_X2_play a0 aR aF aG cI vrow vdrawn vtr vled vmov vw1 vw2 veo veb vh1 vt1 vp1 vk1 vg1 vh2 vt2 vp2 vk2 vg2 (nI d) hcd hR0) gL_law_X2_play rfl (by decide +kernel) rfl ⟨⟨rfl, rfl⟩, ⟨Nat.le_of_ble_eq_true rfl, Nat.le_of_ble_eq_true rfl⟩, Nat.le_of_ble_eq_true rfl, Nat.le_of_ble_eq_true rfl⟩ hP hK hN hD hS hA [0, 1, 2, 3] [] [0, 1, 2, 3] [0] rfl rfl ⟨rfl, rfl, rfl⟩ (by decide) rfl rfl 0 2 rfl rfl rfl (lv_nil hl) rfl (Nat.le_of_ble_eq_true rfl) dL_law_366 (fun H locs hP hD hS => ?_)
    refine lv_iload hx hb dL_law_369 (lv_at hl 4 rfl) ?_
    refine lv_icmp_ne (tgt := 378) hx hb dL_law_371 (by decide) (fun c_ => absurd hpl c_) (fun _ => ?_)
    refine lv_iconst (v := 1) hx hb dL_law_374 (by decide) ?_
    refine lv_goto (tgt := 379) hx hb dL_law_375 (by decide) ?_
    refine lv_istore (lv' := [(4, .int 1), (17, .int (j_X2_pile vdrawn)), (16, .int (j_X2_tricks vk1 vk2 (nI τ))), (15, .int (j_X2_points vp1 vp2 (nI τ))), (14, .int (j_X2_gloves vg1 vg2 (nI τ))), (13, .int (nI τ)), (12, .int (nI l9)), (11, .int (nI d)), (8, .int (nI a)), (7, .int sp), (5, .int (nI dd)), (2, .int f), (3, .int g), (1, .ref a0), (0, .ref b)]) hx hb dL_law_379 hl (by decide) rfl (fun ls hl => ?_)
    refine lv_iload hx hb dL_law_381 (lv_at hl 5 rfl) ?_
    refine lv_if_ge (tgt := 421) hx hb dL_law_383 (by decide) (fun _ => ?_) (fun c_ => absurd c2 c_)
    refine lv_iload hx hb dL_law_421 (lv_at hl 7 rfl) ?_
    refine lv_bipush (v := 39) hx hb dL_law_423 (by decide) ?_
    have jn433 : W p l e room_1 s m #[Value.ref b] below meth c H locs 190 1523 Q (F0 m 433 ls (.int ((if nI d ≤ 39 then 0 else 1) : Int32) :: [])) := by
      refine lv_iload hx hb dL_law_433 (lv_at hl 6 rfl) ?_
      refine lv_bipush (v := 39) hx hb dL_law_435 (by decide) ?_
      have jn445 : W p l e room_1 s m #[Value.ref b] below meth c H locs 190 1523 Q (F0 m 445 ls (.int ((if nI l9 ≤ 39 then 0 else 1) : Int32) :: [.int ((if nI d ≤ 39 then 0 else 1) : Int32)])) := by
        refine lv_iadd hx hb dL_law_445 ?_
        refine lv_istore (lv' := [(18, .int (((if nI d ≤ 39 then 0 else 1) : Int32) + ((if nI l9 ≤ 39 then 0 else 1) : Int32))), (4, .int 1), (17, .int (j_X2_pile vdrawn)), (16, .int (j_X2_tricks vk1 vk2 (nI τ))), (15, .int (j_X2_points vp1 vp2 (nI τ))), (14, .int (j_X2_gloves vg1 vg2 (nI τ))), (13, .int (nI τ)), (12, .int (nI l9)), (11, .int (nI d)), (8, .int (nI a)), (7, .int sp), (5, .int (nI dd)), (2, .int f), (3, .int g), (1, .ref a0), (0, .ref b)]) hx hb dL_law_446 hl (by decide) rfl (fun ls hl => ?_)
        refine lv_iload hx hb dL_law_448 (lv_at hl 10 rfl) ?_
        refine lv_iload hx hb dL_law_450 (lv_at hl 5 rfl) ?_
        refine lv_iconst (v := 1) hx hb dL_law_452 (by decide) ?_
        have jn462 : W p l e room_1 s m #[Value.ref b] below meth c H locs 190 1523 Q (F0 m 462 ls (.int ((if j_X2_gloves vg1 vg2 (nI τ) = 1 then ((if nI d ≤ 39 then 0 else 1) : Int32) + ((if nI l9 ≤ 39 then 0 else 1) : Int32) else 0) : Int32) :: [.int sp])) := by
          refine lv_iadd hx hb dL_law_462 ?_
          refine lv_istore (lv' := [(7, .int (sp + ((if j_X2_gloves vg1 vg2 (nI τ) = 1 then ((if nI d ≤ 39 then 0 else 1) : Int32) + ((if nI l9 ≤ 39 then 0 else 1) : Int32) else 0) : Int32))), (18, .int (((if nI d ≤ 39 then 0 else 1) : Int32) + ((if nI l9 ≤ 39 then 0 else 1) : Int32))), (4, .int 1), (17, .int (j_X2_pile vdrawn)), (16, .int (j_X2_tricks vk1 vk2 (nI τ))), (15, .int (j_X2_points vp1 vp2 (nI τ))), (14, .int (j_X2_gloves vg1 vg2 (nI τ))), (13, .int (nI τ)), (12, .int (nI l9)), (11, .int (nI d)), (8, .int (nI a)), (5, .int (nI dd)), (2, .int f), (3, .int g), (1, .ref a0), (0, .ref b)]) hx hb dL_law_463 hl (by decide) rfl (fun ls hl => ?_)
          refine lv_iload hx hb dL_law_465 (lv_at hl 2 rfl) ?_
          refine lv_if_eq (tgt := 605) hx hb dL_law_467 (by decide) (fun c_ => absurd c_ (by decide)) (fun _ => ?_)
          refine lv_aload_n hx hb dL_law_470 rfl (lv_at hl 14 rfl) ?_
          refine lv_iload hx hb dL_law_471 (lv_at hl 7 rfl) ?_
          refine jr_callV (n := 1) (C := RX2) (As := [.int (nI τ)]) (rest := []) S (c_X2_points a0 aR aF aG cI vrow (j_X2_play_vdrawn vdrawn vtr vled vmov (nI d)) vtr (j_X2_play_vled vled (nI d)) (j_X2_play_vmov vrow vdrawn vtr vled vmov vh1 vh2 (nI d)) (j_X2_play_vw1 vrow vdrawn vtr vled vmov vw1 vh1 vp1 vg1 vh2 vp2 vg2 (nI d)) (j_X2_play_vw2 vrow vdrawn vtr vled vmov vw2 vh1 vp1 vg1 vh2 vp2 vg2 (nI d)) veo veb (j_X2_play_vh1 vrow vdrawn vtr vled vmov vh1 (nI d)) (j_X2_play_vt1 vtr vled vmov vt1 (nI d)) (j_X2_play_vp1 vtr vled vmov vp1 vg1 (nI d)) (j_X2_play_vk1 vtr vled vmov vk1 (nI d)) (j_X2_play_vg1 vled vg1) (j_X2_play_vh2 vrow vdrawn vtr vled vmov vh2 (nI d)) (j_X2_play_vt2 vtr vled vmov vt2 (nI d)) (j_X2_play_vp2 vtr vled vmov vp2 vg2 (nI d)) (j_X2_play_vk2 vtr vled vmov vk2 (nI d)) (j_X2_play_vg2 vled vg2) (nI τ) hAt) gL_law_X2_points rfl (by decide +kernel) rfl ⟨⟨rfl, rfl⟩, ⟨Nat.le_of_ble_eq_true rfl, Nat.le_of_ble_eq_true rfl⟩, Nat.le_of_ble_eq_true rfl, Nat.le_of_ble_eq_true rfl⟩ hP hK hN [0, 1, 2, 3] [0] rfl rfl 0 2 rfl rfl rfl (lv_nil hl) rfl (Nat.le_of_ble_eq_true rfl) dL_law_473 ?_
          refine lv_iload hx hb dL_law_476 (lv_at hl 5 rfl) ?_
          refine lv_iload hx hb dL_law_478 (lv_at hl 9 rfl) ?_
          refine jr_callS (n := 1) (As := [.int (nI d)]) (rest := [.int (j_X2_points vp1 vp2 (nI τ)), .int (j_X2_points (j_X2_play_vp1 vtr vled vmov vp1 vg1 (nI d)) (j_X2_play_vp2 vtr vled vmov vp2 vg2 (nI d)) (nI τ))]) S (c_L_worth (nI d)) gL_law_L_worth rfl (by decide +kernel) rfl ⟨⟨rfl, rfl⟩, ⟨Nat.le_of_ble_eq_true rfl, Nat.le_of_ble_eq_true rfl⟩, Nat.le_of_ble_eq_true rfl, Nat.le_of_ble_eq_true rfl⟩ hP hK hN [] [] rfl rfl (lv_nil hl) rfl (Nat.le_of_ble_eq_true rfl) dL_law_480 ?_
          refine lv_iadd hx hb dL_law_483 ?_
          refine lv_iload hx hb dL_law_484 (lv_at hl 8 rfl) ?_
          refine jr_callS (n := 1) (As := [.int (nI l9)]) (rest := [.int ((j_X2_points vp1 vp2 (nI τ)) + (j_L_worth (nI d))), .int (j_X2_points (j_X2_play_vp1 vtr vled vmov vp1 vg1 (nI d)) (j_X2_play_vp2 vtr vled vmov vp2 vg2 (nI d)) (nI τ))]) S (c_L_worth (nI l9)) gL_law_L_worth rfl (by decide +kernel) rfl ⟨⟨rfl, rfl⟩, ⟨Nat.le_of_ble_eq_true rfl, Nat.le_of_ble_eq_true rfl⟩, Nat.le_of_ble_eq_true rfl, Nat.le_of_ble_eq_true rfl⟩ hP hK hN [] [] rfl rfl (lv_nil hl) rfl (Nat.le_of_ble_eq_true rfl) dL_law_486 ?_
          refine lv_iadd hx hb dL_law_489 ?_
          refine lv_iload hx hb dL_law_490 (lv_at hl 6 rfl) ?_
          refine lv_iconst (v := 1) hx hb dL_law_492 (by decide) ?_
          have jn504 : W p l e room_1 s m #[Value.ref b] below meth c H locs 190 1523 Q (F0 m 504 ls (.int ((if j_X2_gloves vg1 vg2 (nI τ) = 1 then 5 * (((if nI d ≤ 39 then 0 else 1) : Int32) + ((if nI l9 ≤ 39 then 0 else 1) : Int32)) else 0) : Int32) :: [.int (((j_X2_points vp1 vp2 (nI τ)) + (j_L_worth (nI d))) + (j_L_worth (nI l9))), .int (j_X2_points (j_X2_play_vp1 vtr vled vmov vp1 vg1 (nI d)) (j_X2_play_vp2 vtr vled vmov vp2 vg2 (nI d)) (nI τ))])) := by
            refine lv_iadd hx hb dL_law_504 ?_
            refine lv_icmp_ne (tgt := 605) hx hb dL_law_505 (by decide) (fun c_ => absurd k5 c_) (fun _ => ?_)
            refine lv_aload_n hx hb dL_law_508 rfl (lv_at hl 14 rfl) ?_
            refine lv_iload hx hb dL_law_509 (lv_at hl 7 rfl) ?_
            refine jr_callV (n := 1) (C := RX2) (As := [.int (nI τ)]) (rest := []) S (c_X2_tricks a0 aR aF aG cI vrow (j_X2_play_vdrawn vdrawn vtr vled vmov (nI d)) vtr (j_X2_play_vled vled (nI d)) (j_X2_play_vmov vrow vdrawn vtr vled vmov vh1 vh2 (nI d)) (j_X2_play_vw1 vrow vdrawn vtr vled vmov vw1 vh1 vp1 vg1 vh2 vp2 vg2 (nI d)) (j_X2_play_vw2 vrow vdrawn vtr vled vmov vw2 vh1 vp1 vg1 vh2 vp2 vg2 (nI d)) veo veb (j_X2_play_vh1 vrow vdrawn vtr vled vmov vh1 (nI d)) (j_X2_play_vt1 vtr vled vmov vt1 (nI d)) (j_X2_play_vp1 vtr vled vmov vp1 vg1 (nI d)) (j_X2_play_vk1 vtr vled vmov vk1 (nI d)) (j_X2_play_vg1 vled vg1) (j_X2_play_vh2 vrow vdrawn vtr vled vmov vh2 (nI d)) (j_X2_play_vt2 vtr vled vmov vt2 (nI d)) (j_X2_play_vp2 vtr vled vmov vp2 vg2 (nI d)) (j_X2_play_vk2 vtr vled vmov vk2 (nI d)) (j_X2_play_vg2 vled vg2) (nI τ) hAt) gL_law_X2_tricks rfl (by decide +kernel) rfl ⟨⟨rfl, rfl⟩, ⟨Nat.le_of_ble_eq_true rfl, Nat.le_of_ble_eq_true rfl⟩, Nat.le_of_ble_eq_true rfl, Nat.le_of_ble_eq_true rfl⟩ hP hK hN [0, 1, 2, 3] [0] rfl rfl 0 2 rfl rfl rfl (lv_nil hl) rfl (Nat.le_of_ble_eq_true rfl) dL_law_511 ?_
            refine lv_iload hx hb dL_law_514 (lv_at hl 4 rfl) ?_
            refine lv_iconst (v := 1) hx hb dL_law_516 (by decide) ?_
            refine lv_iadd hx hb dL_law_517 ?_
            refine lv_icmp_ne (tgt := 605) hx hb dL_law_518 (by decide) (fun c_ => absurd htk c_) (fun _ => ?_)
            refine lv_aload_n hx hb dL_law_521 rfl (lv_at hl 14 rfl) ?_
            refine lv_iload hx hb dL_law_522 (lv_at hl 9 rfl) ?_
            refine jr_callV (n := 1) (C := RX2) (As := [.int (nI d)]) (rest := []) S (c_X2_placeOf a0 aR aF aG cI vrow (j_X2_play_vdrawn vdrawn vtr vled vmov (nI d)) vtr (j_X2_play_vled vled (nI d)) (j_X2_play_vmov vrow vdrawn vtr vled vmov vh1 vh2 (nI d)) (j_X2_play_vw1 vrow vdrawn vtr vled vmov vw1 vh1 vp1 vg1 vh2 vp2 vg2 (nI d)) (j_X2_play_vw2 vrow vdrawn vtr vled vmov vw2 vh1 vp1 vg1 vh2 vp2 vg2 (nI d)) veo veb (j_X2_play_vh1 vrow vdrawn vtr vled vmov vh1 (nI d)) (j_X2_play_vt1 vtr vled vmov vt1 (nI d)) (j_X2_play_vp1 vtr vled vmov vp1 vg1 (nI d)) (j_X2_play_vk1 vtr vled vmov vk1 (nI d)) (j_X2_play_vg1 vled vg1) (j_X2_play_vh2 vrow vdrawn vtr vled vmov vh2 (nI d)) (j_X2_play_vt2 vtr vled vmov vt2 (nI d)) (j_X2_play_vp2 vtr vled vmov vp2 vg2 (nI d)) (j_X2_play_vk2 vtr vled vmov vk2 (nI d)) (j_X2_play_vg2 vled vg2) (nI d) hcd) gL_law_X2_placeOf rfl (by decide +kernel) rfl ⟨⟨rfl, rfl⟩, ⟨Nat.le_of_ble_eq_true rfl, Nat.le_of_ble_eq_true rfl⟩, Nat.le_of_ble_eq_true rfl, Nat.le_of_ble_eq_true rfl⟩ hP hK hN [0, 1, 2, 3] [0] rfl rfl 0 2 rfl rfl rfl (lv_nil hl) rfl (Nat.le_of_ble_eq_true rfl) dL_law_524 ?_
            refine lv_iconst (v := 4) hx hb dL_law_527 (by decide) ?_
            refine lv_iload hx hb dL_law_528 (lv_at hl 7 rfl) ?_
            refine lv_iadd hx hb dL_law_530 ?_
            refine lv_icmp_ne (tgt := 605) hx hb dL_law_531 (by decide) (fun c_ => absurd k7 c_) (fun _ => ?_)
            refine lv_aload_n hx hb dL_law_534 rfl (lv_at hl 14 rfl) ?_
            refine lv_iload hx hb dL_law_535 (lv_at hl 8 rfl) ?_
            refine jr_callV (n := 1) (C := RX2) (As := [.int (nI l9)]) (rest := []) S (c_X2_placeOf a0 aR aF aG cI vrow (j_X2_play_vdrawn vdrawn vtr vled vmov (nI d)) vtr (j_X2_play_vled vled (nI d)) (j_X2_play_vmov vrow vdrawn vtr vled vmov vh1 vh2 (nI d)) (j_X2_play_vw1 vrow vdrawn vtr vled vmov vw1 vh1 vp1 vg1 vh2 vp2 vg2 (nI d)) (j_X2_play_vw2 vrow vdrawn vtr vled vmov vw2 vh1 vp1 vg1 vh2 vp2 vg2 (nI d)) veo veb (j_X2_play_vh1 vrow vdrawn vtr vled vmov vh1 (nI d)) (j_X2_play_vt1 vtr vled vmov vt1 (nI d)) (j_X2_play_vp1 vtr vled vmov vp1 vg1 (nI d)) (j_X2_play_vk1 vtr vled vmov vk1 (nI d)) (j_X2_play_vg1 vled vg1) (j_X2_play_vh2 vrow vdrawn vtr vled vmov vh2 (nI d)) (j_X2_play_vt2 vtr vled vmov vt2 (nI d)) (j_X2_play_vp2 vtr vled vmov vp2 vg2 (nI d)) (j_X2_play_vk2 vtr vled vmov vk2 (nI d)) (j_X2_play_vg2 vled vg2) (nI l9) hcl) gL_law_X2_placeOf rfl (by decide +kernel) rfl ⟨⟨rfl, rfl⟩, ⟨Nat.le_of_ble_eq_true rfl, Nat.le_of_ble_eq_true rfl⟩, Nat.le_of_ble_eq_true rfl, Nat.le_of_ble_eq_true rfl⟩ hP hK hN [0, 1, 2, 3] [0] rfl rfl 0 2 rfl rfl rfl (lv_nil hl) rfl (Nat.le_of_ble_eq_true rfl) dL_law_537 ?_
            refine lv_iconst (v := 4) hx hb dL_law_540 (by decide) ?_
            refine lv_iload hx hb dL_law_541 (lv_at hl 7 rfl) ?_
            refine lv_iadd hx hb dL_law_543 ?_
            refine lv_icmp_ne (tgt := 605) hx hb dL_law_544 (by decide) (fun c_ => absurd k8 c_) (fun _ => ?_)
            refine lv_aload_n hx hb dL_law_547 rfl (lv_at hl 14 rfl) ?_
            refine lv_iconst (v := 0) hx hb dL_law_548 (by decide) ?_
            refine jr_callV (n := 1) (C := RX2) (As := [.int 0]) (rest := []) S (c_X2_gloves a0 aR aF aG cI vrow (j_X2_play_vdrawn vdrawn vtr vled vmov (nI d)) vtr (j_X2_play_vled vled (nI d)) (j_X2_play_vmov vrow vdrawn vtr vled vmov vh1 vh2 (nI d)) (j_X2_play_vw1 vrow vdrawn vtr vled vmov vw1 vh1 vp1 vg1 vh2 vp2 vg2 (nI d)) (j_X2_play_vw2 vrow vdrawn vtr vled vmov vw2 vh1 vp1 vg1 vh2 vp2 vg2 (nI d)) veo veb (j_X2_play_vh1 vrow vdrawn vtr vled vmov vh1 (nI d)) (j_X2_play_vt1 vtr vled vmov vt1 (nI d)) (j_X2_play_vp1 vtr vled vmov vp1 vg1 (nI d)) (j_X2_play_vk1 vtr vled vmov vk1 (nI d)) (j_X2_play_vg1 vled vg1) (j_X2_play_vh2 vrow vdrawn vtr vled vmov vh2 (nI d)) (j_X2_play_vt2 vtr vled vmov vt2 (nI d)) (j_X2_play_vp2 vtr vled vmov vp2 vg2 (nI d)) (j_X2_play_vk2 vtr vled vmov vk2 (nI d)) (j_X2_play_vg2 vled vg2) 0 hA0) gL_law_X2_gloves rfl (by decide +kernel) rfl ⟨⟨rfl, rfl⟩, ⟨Nat.le_of_ble_eq_true rfl, Nat.le_of_ble_eq_true rfl⟩, Nat.le_of_ble_eq_true rfl, Nat.le_of_ble_eq_true rfl⟩ hP hK hN [0, 1, 2, 3] [0] rfl rfl 0 2 rfl rfl rfl (lv_nil hl) rfl (Nat.le_of_ble_eq_true rfl) dL_law_549 ?_
            refine lv_iconst (v := 1) hx hb dL_law_552 (by decide) ?_
            refine lv_icmp_eq (tgt := 605) hx hb dL_law_553 (by decide) (fun c_ => absurd c_ hg1) (fun _ => ?_)
            refine lv_aload_n hx hb dL_law_556 rfl (lv_at hl 14 rfl) ?_
            refine lv_iconst (v := 1) hx hb dL_law_557 (by decide) ?_
            refine jr_callV (n := 1) (C := RX2) (As := [.int 1]) (rest := []) S (c_X2_gloves a0 aR aF aG cI vrow (j_X2_play_vdrawn vdrawn vtr vled vmov (nI d)) vtr (j_X2_play_vled vled (nI d)) (j_X2_play_vmov vrow vdrawn vtr vled vmov vh1 vh2 (nI d)) (j_X2_play_vw1 vrow vdrawn vtr vled vmov vw1 vh1 vp1 vg1 vh2 vp2 vg2 (nI d)) (j_X2_play_vw2 vrow vdrawn vtr vled vmov vw2 vh1 vp1 vg1 vh2 vp2 vg2 (nI d)) veo veb (j_X2_play_vh1 vrow vdrawn vtr vled vmov vh1 (nI d)) (j_X2_play_vt1 vtr vled vmov vt1 (nI d)) (j_X2_play_vp1 vtr vled vmov vp1 vg1 (nI d)) (j_X2_play_vk1 vtr vled vmov vk1 (nI d)) (j_X2_play_vg1 vled vg1) (j_X2_play_vh2 vrow vdrawn vtr vled vmov vh2 (nI d)) (j_X2_play_vt2 vtr vled vmov vt2 (nI d)) (j_X2_play_vp2 vtr vled vmov vp2 vg2 (nI d)) (j_X2_play_vk2 vtr vled vmov vk2 (nI d)) (j_X2_play_vg2 vled vg2) 1 hA1) gL_law_X2_gloves rfl (by decide +kernel) rfl ⟨⟨rfl, rfl⟩, ⟨Nat.le_of_ble_eq_true rfl, Nat.le_of_ble_eq_true rfl⟩, Nat.le_of_ble_eq_true rfl, Nat.le_of_ble_eq_true rfl⟩ hP hK hN [0, 1, 2, 3] [0] rfl rfl 0 2 rfl rfl rfl (lv_nil hl) rfl (Nat.le_of_ble_eq_true rfl) dL_law_558 ?_
            refine lv_iconst (v := 1) hx hb dL_law_561 (by decide) ?_
            refine lv_icmp_eq (tgt := 605) hx hb dL_law_562 (by decide) (fun c_ => absurd c_ hg2) (fun _ => ?_)
            refine lv_aload_n hx hb dL_law_565 rfl (lv_at hl 14 rfl) ?_
            refine jr_callV (n := 0) (C := RX2) (As := []) (rest := []) S (c_X2_pile a0 aR aF aG cI vrow (j_X2_play_vdrawn vdrawn vtr vled vmov (nI d)) vtr (j_X2_play_vled vled (nI d)) (j_X2_play_vmov vrow vdrawn vtr vled vmov vh1 vh2 (nI d)) (j_X2_play_vw1 vrow vdrawn vtr vled vmov vw1 vh1 vp1 vg1 vh2 vp2 vg2 (nI d)) (j_X2_play_vw2 vrow vdrawn vtr vled vmov vw2 vh1 vp1 vg1 vh2 vp2 vg2 (nI d)) veo veb (j_X2_play_vh1 vrow vdrawn vtr vled vmov vh1 (nI d)) (j_X2_play_vt1 vtr vled vmov vt1 (nI d)) (j_X2_play_vp1 vtr vled vmov vp1 vg1 (nI d)) (j_X2_play_vk1 vtr vled vmov vk1 (nI d)) (j_X2_play_vg1 vled vg1) (j_X2_play_vh2 vrow vdrawn vtr vled vmov vh2 (nI d)) (j_X2_play_vt2 vtr vled vmov vt2 (nI d)) (j_X2_play_vp2 vtr vled vmov vp2 vg2 (nI d)) (j_X2_play_vk2 vtr vled vmov vk2 (nI d)) (j_X2_play_vg2 vled vg2)) gL_law_X2_pile rfl (by decide +kernel) rfl ⟨⟨rfl, rfl⟩, ⟨Nat.le_of_ble_eq_true rfl, Nat.le_of_ble_eq_true rfl⟩, Nat.le_of_ble_eq_true rfl, Nat.le_of_ble_eq_true rfl⟩ hP hK hN [0, 1, 2, 3] [0] rfl rfl 0 2 rfl rfl rfl (lv_nil hl) rfl (Nat.le_of_ble_eq_true rfl) dL_law_566 ?_
            refine lv_iload hx hb dL_law_569 (lv_at hl 3 rfl) ?_
            have jn582 : W p l e room_1 s m #[Value.ref b] below meth c H locs 190 1523 Q (F0 m 582 ls (.int ((if j_X2_pile vdrawn ≤ 0 then 0 else (j_X2_pile vdrawn) - 2) : Int32) :: [.int (j_X2_pile (j_X2_play_vdrawn vdrawn vtr vled vmov (nI d)))])) := by
              refine lv_icmp_ne (tgt := 605) hx hb dL_law_582 (by decide) (fun c_ => absurd hpi c_) (fun _ => ?_)
              refine lv_aload_n hx hb dL_law_585 rfl (lv_at hl 14 rfl) ?_
              refine jr_callV (n := 0) (C := RX2) (As := []) (rest := []) S (c_X2_isPlaying a0 aR aF aG cI vrow (j_X2_play_vdrawn vdrawn vtr vled vmov (nI d)) vtr (j_X2_play_vled vled (nI d)) (j_X2_play_vmov vrow vdrawn vtr vled vmov vh1 vh2 (nI d)) (j_X2_play_vw1 vrow vdrawn vtr vled vmov vw1 vh1 vp1 vg1 vh2 vp2 vg2 (nI d)) (j_X2_play_vw2 vrow vdrawn vtr vled vmov vw2 vh1 vp1 vg1 vh2 vp2 vg2 (nI d)) veo veb (j_X2_play_vh1 vrow vdrawn vtr vled vmov vh1 (nI d)) (j_X2_play_vt1 vtr vled vmov vt1 (nI d)) (j_X2_play_vp1 vtr vled vmov vp1 vg1 (nI d)) (j_X2_play_vk1 vtr vled vmov vk1 (nI d)) (j_X2_play_vg1 vled vg1) (j_X2_play_vh2 vrow vdrawn vtr vled vmov vh2 (nI d)) (j_X2_play_vt2 vtr vled vmov vt2 (nI d)) (j_X2_play_vp2 vtr vled vmov vp2 vg2 (nI d)) (j_X2_play_vk2 vtr vled vmov vk2 (nI d)) (j_X2_play_vg2 vled vg2)) gL_law_X2_isPlaying rfl (by decide +kernel) rfl ⟨⟨rfl, rfl⟩, ⟨Nat.le_of_ble_eq_true rfl, Nat.le_of_ble_eq_true rfl⟩, Nat.le_of_ble_eq_true rfl, Nat.le_of_ble_eq_true rfl⟩ hP hK hN [0, 1, 2, 3] [0] rfl rfl 0 2 rfl rfl rfl (lv_nil hl) rfl (Nat.le_of_ble_eq_true rfl) dL_law_586 ?_
              refine lv_if_eq (tgt := 601) hx hb dL_law_589 (by decide) (fun c_ => absurd c_ k9) (fun _ => ?_)
              refine lv_aload_n hx hb dL_law_592 rfl (lv_at hl 14 rfl) ?_
              refine jr_callV (n := 0) (C := RX2) (As := []) (rest := []) S (c_X2_turn a0 aR aF aG cI vrow (j_X2_play_vdrawn vdrawn vtr vled vmov (nI d)) vtr (j_X2_play_vled vled (nI d)) (j_X2_play_vmov vrow vdrawn vtr vled vmov vh1 vh2 (nI d)) (j_X2_play_vw1 vrow vdrawn vtr vled vmov vw1 vh1 vp1 vg1 vh2 vp2 vg2 (nI d)) (j_X2_play_vw2 vrow vdrawn vtr vled vmov vw2 vh1 vp1 vg1 vh2 vp2 vg2 (nI d)) veo veb (j_X2_play_vh1 vrow vdrawn vtr vled vmov vh1 (nI d)) (j_X2_play_vt1 vtr vled vmov vt1 (nI d)) (j_X2_play_vp1 vtr vled vmov vp1 vg1 (nI d)) (j_X2_play_vk1 vtr vled vmov vk1 (nI d)) (j_X2_play_vg1 vled vg1) (j_X2_play_vh2 vrow vdrawn vtr vled vmov vh2 (nI d)) (j_X2_play_vt2 vtr vled vmov vt2 (nI d)) (j_X2_play_vp2 vtr vled vmov vp2 vg2 (nI d)) (j_X2_play_vk2 vtr vled vmov vk2 (nI d)) (j_X2_play_vg2 vled vg2)) gL_law_X2_turn rfl (by decide +kernel) rfl ⟨⟨rfl, rfl⟩, ⟨Nat.le_of_ble_eq_true rfl, Nat.le_of_ble_eq_true rfl⟩, Nat.le_of_ble_eq_true rfl, Nat.le_of_ble_eq_true rfl⟩ hP hK hN [0, 1, 2, 3] [0] rfl rfl 0 2 rfl rfl rfl (lv_nil hl) rfl (Nat.le_of_ble_eq_true rfl) dL_law_593 ?_
              refine lv_iload hx hb dL_law_596 (lv_at hl 7 rfl) ?_
              refine lv_icmp_ne (tgt := 605) hx hb dL_law_598 (by decide) (fun c_ => absurd hmo c_) (fun _ => ?_)
              refine lv_iconst (v := 1) hx hb dL_law_601 (by decide) ?_
              refine lv_goto (tgt := 606) hx hb dL_law_602 (by decide) ?_
              refine lv_istore (lv' := [(4, .int 1), (7, .int (sp + ((if j_X2_gloves vg1 vg2 (nI τ) = 1 then ((if nI d ≤ 39 then 0 else 1) : Int32) + ((if nI l9 ≤ 39 then 0 else 1) : Int32) else 0) : Int32))), (18, .int (((if nI d ≤ 39 then 0 else 1) : Int32) + ((if nI l9 ≤ 39 then 0 else 1) : Int32))), (17, .int (j_X2_pile vdrawn)), (16, .int (j_X2_tricks vk1 vk2 (nI τ))), (15, .int (j_X2_points vp1 vp2 (nI τ))), (14, .int (j_X2_gloves vg1 vg2 (nI τ))), (13, .int (nI τ)), (12, .int (nI l9)), (11, .int (nI d)), (8, .int (nI a)), (5, .int (nI dd)), (2, .int f), (3, .int g), (1, .ref a0), (0, .ref b)]) hx hb dL_law_606 hl (by decide) rfl (fun ls hl => ?_)
              refine lv_iload hx hb dL_law_608 (lv_at hl 0 rfl) ?_
              refine lv_if_eq (tgt := 626) hx hb dL_law_610 (by decide) (fun c_ => absurd c_ (by decide)) (fun _ => ?_)
              refine lv_aload_n hx hb dL_law_613 rfl (lv_at hl 14 rfl) ?_
              refine lv_iload hx hb dL_law_614 (lv_at hl 1 rfl) ?_
              refine jr_callS (n := 2) (As := [.ref a0, .int (sp + ((if j_X2_gloves vg1 vg2 (nI τ) = 1 then ((if nI d ≤ 39 then 0 else 1) : Int32) + ((if nI l9 ≤ 39 then 0 else 1) : Int32) else 0) : Int32))]) (rest := []) S (c_L_isLaidRight a0 aR aF aG cI vrow (j_X2_play_vdrawn vdrawn vtr vled vmov (nI d)) vtr (j_X2_play_vled vled (nI d)) (j_X2_play_vmov vrow vdrawn vtr vled vmov vh1 vh2 (nI d)) (j_X2_play_vw1 vrow vdrawn vtr vled vmov vw1 vh1 vp1 vg1 vh2 vp2 vg2 (nI d)) (j_X2_play_vw2 vrow vdrawn vtr vled vmov vw2 vh1 vp1 vg1 vh2 vp2 vg2 (nI d)) veo veb (j_X2_play_vh1 vrow vdrawn vtr vled vmov vh1 (nI d)) (j_X2_play_vt1 vtr vled vmov vt1 (nI d)) (j_X2_play_vp1 vtr vled vmov vp1 vg1 (nI d)) (j_X2_play_vk1 vtr vled vmov vk1 (nI d)) (j_X2_play_vg1 vled vg1) (j_X2_play_vh2 vrow vdrawn vtr vled vmov vh2 (nI d)) (j_X2_play_vt2 vtr vled vmov vt2 (nI d)) (j_X2_play_vp2 vtr vled vmov vp2 vg2 (nI d)) (j_X2_play_vk2 vtr vled vmov vk2 (nI d)) (j_X2_play_vg2 vled vg2) (sp + ((if j_X2_gloves vg1 vg2 (nI τ) = 1 then ((if nI d ≤ 39 then 0 else 1) : Int32) + ((if nI l9 ≤ 39 then 0 else 1) : Int32) else 0) : Int32)) hV') gL_law_L_isLaidRight rfl (by decide +kernel) rfl ⟨⟨rfl, rfl⟩, ⟨Nat.le_of_ble_eq_true rfl, Nat.le_of_ble_eq_true rfl⟩, Nat.le_of_ble_eq_true rfl, Nat.le_of_ble_eq_true rfl⟩ hP hK hN [0, 1, 2, 3] [0] rfl rfl (lv_nil hl) rfl (Nat.le_of_ble_eq_true rfl) dL_law_616 ?_
              refine lv_if_eq (tgt := 626) hx hb dL_law_619 (by decide) (fun c_ => absurd c_ (by decide)) (fun _ => ?_)
              refine lv_iconst (v := 1) hx hb dL_law_622 (by decide) ?_
              refine lv_goto (tgt := 627) hx hb dL_law_623 (by decide) ?_
              refine lv_istore (lv' := [(4, .int 1), (7, .int (sp + ((if j_X2_gloves vg1 vg2 (nI τ) = 1 then ((if nI d ≤ 39 then 0 else 1) : Int32) + ((if nI l9 ≤ 39 then 0 else 1) : Int32) else 0) : Int32))), (18, .int (((if nI d ≤ 39 then 0 else 1) : Int32) + ((if nI l9 ≤ 39 then 0 else 1) : Int32))), (17, .int (j_X2_pile vdrawn)), (16, .int (j_X2_tricks vk1 vk2 (nI τ))), (15, .int (j_X2_points vp1 vp2 (nI τ))), (14, .int (j_X2_gloves vg1 vg2 (nI τ))), (13, .int (nI τ)), (12, .int (nI l9)), (11, .int (nI d)), (8, .int (nI a)), (5, .int (nI dd)), (2, .int f), (3, .int g), (1, .ref a0), (0, .ref b)]) hx hb dL_law_627 hl (by decide) rfl (fun ls hl => ?_)
              refine lv_goto (tgt := 102) hx hb dL_law_629 (by decide) ?_
              exact kk vrow (j_X2_play_vdrawn vdrawn vtr vled vmov (nI d)) vtr (j_X2_play_vled vled (nI d)) (j_X2_play_vmov vrow vdrawn vtr vled vmov vh1 vh2 (nI d)) (j_X2_play_vw1 vrow vdrawn vtr vled vmov vw1 vh1 vp1 vg1 vh2 vp2 vg2 (nI d)) (j_X2_play_vw2 vrow vdrawn vtr vled vmov vw2 vh1 vp1 vg1 vh2 vp2 vg2 (nI d)) veo veb (j_X2_play_vh1 vrow vdrawn vtr vled vmov vh1 (nI d)) (j_X2_play_vt1 vtr vled vmov vt1 (nI d)) (j_X2_play_vp1 vtr vled vmov vp1 vg1 (nI d)) (j_X2_play_vk1 vtr vled vmov vk1 (nI d)) (j_X2_play_vg1 vled vg1) (j_X2_play_vh2 vrow vdrawn vtr vled vmov vh2 (nI d)) (j_X2_play_vt2 vtr vled vmov vt2 (nI d)) (j_X2_play_vp2 vtr vled vmov vp2 vg2 (nI d)) (j_X2_play_vk2 vtr vled vmov vk2 (nI d)) (j_X2_play_vg2 vled vg2) (sp + ((if j_X2_gloves vg1 vg2 (nI τ) = 1 then ((if nI d ≤ 39 then 0 else 1) : Int32) + ((if nI l9 ≤ 39 then 0 else 1) : Int32) else 0) : Int32)) _ _ H locs ls hn' hR' hP hD hS (lv_sub hl [1, 11, 0, 12, 13, 14, 15] rfl)
            refine lv_if_le (tgt := 581) hx hb dL_law_571 (by decide) (fun c_5 => ?_) (fun c_5 => ?_)
            · skip
              refine lv_iconst (v := 0) hx hb dL_law_581 (by decide) ?_
              exact jr_eqi (by simp only [id, if_pos c1, if_pos c2, if_pos hpl, if_pos k5, if_pos htk, if_pos k7, if_pos k8, if_neg hg1, if_neg hg2, if_pos hpi, if_neg k9, if_pos hmo, if_pos c_5]) jn582
            · skip
              refine lv_iload hx hb dL_law_574 (lv_at hl 3 rfl) ?_
              refine lv_iconst (v := 2) hx hb dL_law_576 (by decide) ?_
              refine lv_isub hx hb dL_law_577 ?_
              refine lv_goto (tgt := 582) hx hb dL_law_578 (by decide) ?_
              exact jr_eqi (by simp only [id, if_pos c1, if_pos c2, if_pos hpl, if_pos k5, if_pos htk, if_pos k7, if_pos k8, if_neg hg1, if_neg hg2, if_pos hpi, if_neg k9, if_pos hmo, if_neg c_5]) jn582
          refine lv_icmp_ne (tgt := 503) hx hb dL_law_493 (by decide) (fun c_4 => ?_) (fun c_4 => ?_)
          · skip
            refine lv_iconst (v := 0) hx hb dL_law_503 (by decide) ?_
            exact jr_eqi (by simp only [id, if_pos c1, if_pos c2, if_pos hpl, if_pos k5, if_pos htk, if_pos k7, if_pos k8, if_neg hg1, if_neg hg2, if_pos hpi, if_neg k9, if_pos hmo, if_neg c_4]) jn504
          · skip
            refine lv_iconst (v := 5) hx hb dL_law_496 (by decide) ?_
            refine lv_iload hx hb dL_law_497 (lv_at hl 1 rfl) ?_
            refine lv_imul hx hb dL_law_499 ?_
            refine lv_goto (tgt := 504) hx hb dL_law_500 (by decide) ?_
            exact jr_eqi (by simp only [id, if_pos c1, if_pos c2, if_pos hpl, if_pos k5, if_pos htk, if_pos k7, if_pos k8, if_neg hg1, if_neg hg2, if_pos hpi, if_neg k9, if_pos hmo, if_pos c_4]) jn504
        refine lv_icmp_ne (tgt := 461) hx hb dL_law_453 (by decide) (fun c_3 => ?_) (fun c_3 => ?_)
        · skip
          refine lv_iconst (v := 0) hx hb dL_law_461 (by decide) ?_
          exact jr_eqi (by simp only [id, if_pos c1, if_pos c2, if_pos hpl, if_pos k5, if_pos htk, if_pos k7, if_pos k8, if_neg hg1, if_neg hg2, if_pos hpi, if_neg k9, if_pos hmo, if_neg c_3]) jn462
        · skip
          refine lv_iload hx hb dL_law_456 (lv_at hl 0 rfl) ?_
          refine lv_goto (tgt := 462) hx hb dL_law_458 (by decide) ?_
          exact jr_eqi (by simp only [id, if_pos c1, if_pos c2, if_pos hpl, if_pos k5, if_pos htk, if_pos k7, if_pos k8, if_neg hg1, if_neg hg2, if_pos hpi, if_neg k9, if_pos hmo, if_pos c_3]) jn462
      refine lv_icmp_le (tgt := 444) hx hb dL_law_437 (by decide) (fun c_2 => ?_) (fun c_2 => ?_)
      · skip
        refine lv_iconst (v := 0) hx hb dL_law_444 (by decide) ?_
        exact jr_eqi (by simp only [id, if_pos c1, if_pos c2, if_pos hpl, if_pos k5, if_pos htk, if_pos k7, if_pos k8, if_neg hg1, if_neg hg2, if_pos hpi, if_neg k9, if_pos hmo, if_pos c_2]) jn445
      · skip
        refine lv_iconst (v := 1) hx hb dL_law_440 (by decide) ?_
        refine lv_goto (tgt := 445) hx hb dL_law_441 (by decide) ?_
        exact jr_eqi (by simp only [id, if_pos c1, if_pos c2, if_pos hpl, if_pos k5, if_pos htk, if_pos k7, if_pos k8, if_neg hg1, if_neg hg2, if_pos hpi, if_neg k9, if_pos hmo, if_neg c_2]) jn445
    refine lv_icmp_le (tgt := 432) hx hb dL_law_425 (by decide) (fun c_1 => ?_) (fun c_1 => ?_)
    · skip
      refine lv_iconst (v := 0) hx hb dL_law_432 (by decide) ?_
      exact jr_eqi (by simp only [id, if_pos c1, if_pos c2, if_pos hpl, if_pos k5, if_pos htk, if_pos k7, if_pos k8, if_neg hg1, if_neg hg2, if_pos hpi, if_neg k9, if_pos hmo, if_pos c_1]) jn433
    · skip
      refine lv_iconst (v := 1) hx hb dL_law_428 (by decide) ?_
      refine lv_goto (tgt := 433) hx hb dL_law_429 (by decide) ?_
      exact jr_eqi (by simp only [id, if_pos c1, if_pos c2, if_pos hpl, if_pos k5, if_pos htk, if_pos k7, if_pos k8, if_neg hg1, if_neg hg2, if_pos hpi, if_neg k9, if_pos hmo, if_neg c_1]) jn433
set_option maxRecDepth 100000 in
set_option maxHeartbeats 8000000 in
theorem pz_game (X : pz_X l p s m c b L xs D A cI) (hdd : dd < 3)
    (fin : ∀ (y_vrow : Nat → Int32) (y_vdrawn y_vtr y_vled y_vmov y_vw1 y_vw2 : Int32) (y_veo : Option Nat) (y_veb : Int32) (y_vh1 y_vt1 : Int64) (y_vp1 y_vk1 y_vg1 : Int32) (y_vh2 y_vt2 : Int64) (y_vp2 y_vk2 y_vg2 : Int32) (sp' : Int32) (n' : Nat) (up' : Nat → Int32) (H1 : Heap) (locs1 : List Loc) (ls1 : Array Slot), pq_R y_vrow y_vdrawn y_vtr y_vled y_vmov y_vw1 y_vw2 y_vh1 y_vt1 y_vp1 y_vk1 y_vg1 y_vh2 y_vt2 y_vp2 y_vk2 y_vg2 sp' f g n' up' → y_vmov = (-1) → va_P D vwCl (jC a0 aR aF aG cI y_vrow y_vdrawn y_vtr y_vled y_vmov y_vw1 y_vw2 y_veo y_veb y_vh1 y_vt1 y_vp1 y_vk1 y_vg1 y_vh2 y_vt2 y_vp2 y_vk2 y_vg2) H1 → va_D A (jC a0 aR aF aG cI y_vrow y_vdrawn y_vtr y_vled y_vmov y_vw1 y_vw2 y_veo y_veb y_vh1 y_vt1 y_vp1 y_vk1 y_vg1 y_vh2 y_vt2 y_vp2 y_vk2 y_vg2) → va_S A s.heap H1 locs1 → lv_has ls1 19 [(7, .int sp'), (5, .int (nI dd)), (4, .int 1), (2, .int f), (3, .int g), (1, .ref a0), (0, .ref b)] → W p l e room_1 s m #[Value.ref b] below meth c H1 locs1 190 1523 Q (F0 m 632 ls1 [])) :
    ∀ (n : Nat) (vrow : Nat → Int32) (vdrawn vtr vled vmov vw1 vw2 : Int32) (veo : Option Nat) (veb : Int32) (vh1 vt1 : Int64) (vp1 vk1 vg1 : Int32) (vh2 vt2 : Int64) (vp2 vk2 vg2 : Int32) (sp : Int32) (up : Nat → Int32) (H : Heap) (locs : List Loc) (ls : Array Slot), pq_R vrow vdrawn vtr vled vmov vw1 vw2 vh1 vt1 vp1 vk1 vg1 vh2 vt2 vp2 vk2 vg2 sp f g n up → va_P D vwCl (jC a0 aR aF aG cI vrow vdrawn vtr vled vmov vw1 vw2 veo veb vh1 vt1 vp1 vk1 vg1 vh2 vt2 vp2 vk2 vg2) H → va_D A (jC a0 aR aF aG cI vrow vdrawn vtr vled vmov vw1 vw2 veo veb vh1 vt1 vp1 vk1 vg1 vh2 vt2 vp2 vk2 vg2) → va_S A s.heap H locs → lv_has ls 19 [(7, .int sp), (5, .int (nI dd)), (4, .int 1), (2, .int f), (3, .int g), (1, .ref a0), (0, .ref b)] → W p l e room_1 s m #[Value.ref b] below meth c H locs 190 1523 Q (F0 m 102 ls []) := by
  obtain ⟨S, hN, hXs, hbl, hbA, hA, hK, hL260⟩ := id X
  obtain ⟨hx, hb, hml, hown, hts⟩ := id S
  have hover : ∀ (vrow : Nat → Int32) (vdrawn vtr vled vmov vw1 vw2 : Int32) (veo : Option Nat) (veb : Int32) (vh1 vt1 : Int64) (vp1 vk1 vg1 : Int32) (vh2 vt2 : Int64) (vp2 vk2 vg2 : Int32) (sp : Int32) (n : Nat) (up : Nat → Int32) (H : Heap) (locs : List Loc) (ls : Array Slot), pq_R vrow vdrawn vtr vled vmov vw1 vw2 vh1 vt1 vp1 vk1 vg1 vh2 vt2 vp2 vk2 vg2 sp f g n up → vmov = (-1) → va_P D vwCl (jC a0 aR aF aG cI vrow vdrawn vtr vled vmov vw1 vw2 veo veb vh1 vt1 vp1 vk1 vg1 vh2 vt2 vp2 vk2 vg2) H → va_D A (jC a0 aR aF aG cI vrow vdrawn vtr vled vmov vw1 vw2 veo veb vh1 vt1 vp1 vk1 vg1 vh2 vt2 vp2 vk2 vg2) → va_S A s.heap H locs → lv_has ls 19 [(7, .int sp), (5, .int (nI dd)), (4, .int 1), (2, .int f), (3, .int g), (1, .ref a0), (0, .ref b)] → W p l e room_1 s m #[Value.ref b] below meth c H locs 190 1523 Q (F0 m 102 ls []) := by
    intro vrow vdrawn vtr vled vmov vw1 vw2 veo veb vh1 vt1 vp1 vk1 vg1 vh2 vt2 vp2 vk2 vg2 sp n up H locs ls hR h1 hP hD hS hl
    have c1 : j_X2_isPlaying vmov = 0 := by unfold j_X2_isPlaying; rw [if_pos h1]
    refine lv_iload hx hb dL_law_102 (lv_at hl 2 rfl) ?_
    refine lv_if_eq (tgt := 632) hx hb dL_law_104 (by decide) (fun c_ => absurd c_ (by decide)) (fun _ => ?_)
    refine lv_aload_n hx hb dL_law_107 rfl (lv_at hl 5 rfl) ?_
    refine jr_callV (n := 0) (C := RX2) (As := []) (rest := []) S (c_X2_isPlaying a0 aR aF aG cI vrow vdrawn vtr vled vmov vw1 vw2 veo veb vh1 vt1 vp1 vk1 vg1 vh2 vt2 vp2 vk2 vg2) gL_law_X2_isPlaying rfl (by decide +kernel) rfl ⟨⟨rfl, rfl⟩, ⟨Nat.le_of_ble_eq_true rfl, Nat.le_of_ble_eq_true rfl⟩, Nat.le_of_ble_eq_true rfl, Nat.le_of_ble_eq_true rfl⟩ hP hK hN [0, 1, 2, 3] [0] rfl rfl 0 2 rfl rfl rfl (lv_nil hl) rfl (Nat.le_of_ble_eq_true rfl) dL_law_108 ?_
    refine lv_if_eq (tgt := 632) hx hb dL_law_111 (by decide) (fun _ => ?_) (fun c_ => absurd c1 c_)
    exact fin vrow vdrawn vtr vled vmov vw1 vw2 veo veb vh1 vt1 vp1 vk1 vg1 vh2 vt2 vp2 vk2 vg2 _ _ _ H locs ls hR h1 hP hD hS (lv_sub hl [0, 1, 2, 3, 4, 5, 6] rfl)
  intro n
  induction n with
  | zero =>
    intro vrow vdrawn vtr vled vmov vw1 vw2 veo veb vh1 vt1 vp1 vk1 vg1 vh2 vt2 vp2 vk2 vg2 sp up H locs ls hR hP hD hS hl
    by_cases h1 : vmov = (-1)
    · exact hover vrow vdrawn vtr vled vmov vw1 vw2 veo veb vh1 vt1 vp1 vk1 vg1 vh2 vt2 vp2 vk2 vg2 sp _ up H locs ls hR h1 hP hD hS hl
    · obtain ⟨E, hV⟩ := pq_view hR
      obtain ⟨_, _, _, _, _, _, _, _, hmv⟩ := id hV
      rcases hmv with ⟨m1, _⟩ | ⟨a, a', hab, hm, _, hn1, _⟩
      · exact absurd m1 h1
      · exfalso
        obtain ⟨_, _, _, _, _, _, _, _, _, _, _, _, _, hle⟩ := hR
        have ha : a = 0 ∨ a = 1 := by omega
        rcases ha with e | e
        · subst e; omega
        · subst e; omega
  | succ n ih =>
    intro vrow vdrawn vtr vled vmov vw1 vw2 veo veb vh1 vt1 vp1 vk1 vg1 vh2 vt2 vp2 vk2 vg2 sp up H locs ls hR hP hD hS hl
    by_cases h1 : vmov = (-1)
    · exact hover vrow vdrawn vtr vled vmov vw1 vw2 veo veb vh1 vt1 vp1 vk1 vg1 vh2 vt2 vp2 vk2 vg2 sp _ up H locs ls hR h1 hP hD hS hl
    · obtain ⟨E, hV⟩ := pq_view hR
      obtain ⟨_, _, _, _, _, _, _, _, hmv⟩ := id hV
      rcases hmv with ⟨m1, _⟩ | ⟨a, a', hab, hm, _, hn1, _⟩
      · exact absurd m1 h1
      · have c1 : ¬ j_X2_isPlaying vmov = 0 := by unfold j_X2_isPlaying; rw [if_neg h1]; decide
        refine lv_iload hx hb dL_law_102 (lv_at hl 2 rfl) ?_
        refine lv_if_eq (tgt := 632) hx hb dL_law_104 (by decide) (fun c_ => absurd c_ (by decide)) (fun _ => ?_)
        refine lv_aload_n hx hb dL_law_107 rfl (lv_at hl 5 rfl) ?_
        refine jr_callV (n := 0) (C := RX2) (As := []) (rest := []) S (c_X2_isPlaying a0 aR aF aG cI vrow vdrawn vtr vled vmov vw1 vw2 veo veb vh1 vt1 vp1 vk1 vg1 vh2 vt2 vp2 vk2 vg2) gL_law_X2_isPlaying rfl (by decide +kernel) rfl ⟨⟨rfl, rfl⟩, ⟨Nat.le_of_ble_eq_true rfl, Nat.le_of_ble_eq_true rfl⟩, Nat.le_of_ble_eq_true rfl, Nat.le_of_ble_eq_true rfl⟩ hP hK hN [0, 1, 2, 3] [0] rfl rfl 0 2 rfl rfl rfl (lv_nil hl) rfl (Nat.le_of_ble_eq_true rfl) dL_law_108 ?_
        refine lv_if_eq (tgt := 632) hx hb dL_law_111 (by decide) (fun c_ => absurd c_ c1) (fun _ => ?_)
        refine pz_glove X hdd hR hab hm hP hD hS (lv_sub hl [0, 1, 2, 3, 4, 5, 6] rfl) (fun r w1 w2 H1 locs1 ls1 hr hR1 hP1 hD1 hS1 hl1 => ?_)
        obtain ⟨E1, hV1⟩ := pq_view hR1
        refine pz_pick X hV1 hab hm hr hP1 hD1 hS1 hl1 (fun d ls2 hd ud hR0 hl2 => ?_)
        have next : ∀ (y_vrow : Nat → Int32) (y_vdrawn y_vtr y_vled y_vmov y_vw1 y_vw2 : Int32) (y_veo : Option Nat) (y_veb : Int32) (y_vh1 y_vt1 : Int64) (y_vp1 y_vk1 y_vg1 : Int32) (y_vh2 y_vt2 : Int64) (y_vp2 y_vk2 y_vg2 : Int32) (sp' : Int32) (n' : Nat) (up' : Nat → Int32) (H1 : Heap) (locs1 : List Loc) (ls1 : Array Slot), n' + 1 = n + 1 → pq_R y_vrow y_vdrawn y_vtr y_vled y_vmov y_vw1 y_vw2 y_vh1 y_vt1 y_vp1 y_vk1 y_vg1 y_vh2 y_vt2 y_vp2 y_vk2 y_vg2 sp' f g n' up' → va_P D vwCl (jC a0 aR aF aG cI y_vrow y_vdrawn y_vtr y_vled y_vmov y_vw1 y_vw2 y_veo y_veb y_vh1 y_vt1 y_vp1 y_vk1 y_vg1 y_vh2 y_vt2 y_vp2 y_vk2 y_vg2) H1 → va_D A (jC a0 aR aF aG cI y_vrow y_vdrawn y_vtr y_vled y_vmov y_vw1 y_vw2 y_veo y_veb y_vh1 y_vt1 y_vp1 y_vk1 y_vg1 y_vh2 y_vt2 y_vp2 y_vk2 y_vg2) → va_S A s.heap H1 locs1 → lv_has ls1 19 [(7, .int sp'), (5, .int (nI dd)), (4, .int 1), (2, .int f), (3, .int g), (1, .ref a0), (0, .ref b)] → W p l e room_1 s m #[Value.ref b] below meth c H1 locs1 190 1523 Q (F0 m 102 ls1 []) := by
          intro y_vrow y_vdrawn y_vtr y_vled y_vmov y_vw1 y_vw2 y_veo y_veb y_vh1 y_vt1 y_vp1 y_vk1 y_vg1 y_vh2 y_vt2 y_vp2 y_vk2 y_vg2 sp' n' up' H3 locs3 ls3 hn' hR3 hP3 hD3 hS3 hl3
          have en : n' = n := by omega
          subst en
          exact ih y_vrow y_vdrawn y_vtr y_vled y_vmov y_vw1 y_vw2 y_veo y_veb y_vh1 y_vt1 y_vp1 y_vk1 y_vg1 y_vh2 y_vt2 y_vp2 y_vk2 y_vg2 sp' up' H3 locs3 ls3 hR3 hP3 hD3 hS3 hl3
        obtain ⟨_, lo, _⟩ := id hV1
        rcases lo with ⟨el, _⟩ | ⟨l9, hl9, el, i3⟩
        · exact pz_lead X hR1 hab hm hd ud hR0 el hP1 hD1 hS1 hl2 next
        · have ul : ¬ l9 = d := fun z => by
            have := (i3 l9 hl9).mpr rfl
            rw [z, ud] at this
            have := (nI_eq (by omega) (by omega)).mp this
            omega
          exact pz_trick X hR1 hab hm hd ud hR0 hl9 el ul hP1 hD1 hS1 hl2 next
set_option maxRecDepth 100000 in
set_option maxHeartbeats 8000000 in
theorem pz_over (X : pz_X l p s m c b L xs D A cI) (hR : pq_R vrow vdrawn vtr vled vmov vw1 vw2 vh1 vt1 vp1 vk1 vg1 vh2 vt2 vp2 vk2 vg2 sp f g n up) (hm : vmov = (-1)) (hP : va_P D vwCl (jC a0 aR aF aG cI vrow vdrawn vtr vled vmov vw1 vw2 veo veb vh1 vt1 vp1 vk1 vg1 vh2 vt2 vp2 vk2 vg2) H) (hD : va_D A (jC a0 aR aF aG cI vrow vdrawn vtr vled vmov vw1 vw2 veo veb vh1 vt1 vp1 vk1 vg1 vh2 vt2 vp2 vk2 vg2)) (hS : va_S A s.heap H locs) (hl : lv_has ls 19 [(7, .int sp), (5, .int (nI dd)), (4, .int 1), (2, .int f), (3, .int g), (1, .ref a0), (0, .ref b)])
    (kk : ∀ (ls : Array Slot), lv_has ls 19 [(5, .int (nI (dd + 1))), (4, .int 1), (2, .int vw1), (3, .int vw2), (1, .ref a0), (0, .ref b)] → W p l e room_1 s m #[Value.ref b] below meth c H locs 190 1523 Q (F0 m 18 ls [])) : W p l e room_1 s m #[Value.ref b] below meth c H locs 190 1523 Q (F0 m 632 ls []) := by
  obtain ⟨S, hN, hXs, hbl, hbA, hA, hK, hL260⟩ := id X
  obtain ⟨hx, hb, hml, hown, hts⟩ := id S
  obtain ⟨h1, h2, h3, h4⟩ := pq_end hR hm
  have hA0 : ¬ j_X2_isArchivist 0 = 0 := by decide
  have hA1 : ¬ j_X2_isArchivist 1 = 0 := by decide
  have e1 : f + ((if j_X2_points vp1 vp2 0 ≤ j_X2_points vp1 vp2 1 then 0 else 1) : Int32) = vw1 := h3.symm
  have e2 : g + ((if j_X2_points vp1 vp2 1 ≤ j_X2_points vp1 vp2 0 then 0 else 1) : Int32) = vw2 := h4.symm
  have c1 : (j_X2_tricks vk1 vk2 0) + (j_X2_tricks vk1 vk2 1) = 21 := h1
  have c2 : (j_X2_points vp1 vp2 0) + (j_X2_points vp1 vp2 1) = 210 + (5 * sp) := h2
  have c3 : j_X2_wonByFirst vw1 = vw1 := rfl
  have c4 : j_X2_wonBySecond vw2 = vw2 := rfl
  have c5 : j_X2_turn vmov = (-1) := hm
  have c6 : j_X2_choices vdrawn vtr vled vmov vh1 vh2 = 0 := by rw [hm]; exact pq_choices0
  refine lv_iload_n hx hb dL_law_632 rfl (lv_at hl 3 rfl) ?_
  refine lv_aload_n hx hb dL_law_633 rfl (lv_at hl 5 rfl) ?_
  refine lv_iconst (v := 0) hx hb dL_law_634 (by decide) ?_
  refine jr_callV (n := 1) (C := RX2) (As := [.int 0]) (rest := [.int f]) S (c_X2_points a0 aR aF aG cI vrow vdrawn vtr vled vmov vw1 vw2 veo veb vh1 vt1 vp1 vk1 vg1 vh2 vt2 vp2 vk2 vg2 0 hA0) gL_law_X2_points rfl (by decide +kernel) rfl ⟨⟨rfl, rfl⟩, ⟨Nat.le_of_ble_eq_true rfl, Nat.le_of_ble_eq_true rfl⟩, Nat.le_of_ble_eq_true rfl, Nat.le_of_ble_eq_true rfl⟩ hP hK hN [0, 1, 2, 3] [0] rfl rfl 0 2 rfl rfl rfl (lv_nil hl) rfl (Nat.le_of_ble_eq_true rfl) dL_law_635 ?_
  refine lv_aload_n hx hb dL_law_638 rfl (lv_at hl 5 rfl) ?_
  refine lv_iconst (v := 1) hx hb dL_law_639 (by decide) ?_
  refine jr_callV (n := 1) (C := RX2) (As := [.int 1]) (rest := [.int (j_X2_points vp1 vp2 0), .int f]) S (c_X2_points a0 aR aF aG cI vrow vdrawn vtr vled vmov vw1 vw2 veo veb vh1 vt1 vp1 vk1 vg1 vh2 vt2 vp2 vk2 vg2 1 hA1) gL_law_X2_points rfl (by decide +kernel) rfl ⟨⟨rfl, rfl⟩, ⟨Nat.le_of_ble_eq_true rfl, Nat.le_of_ble_eq_true rfl⟩, Nat.le_of_ble_eq_true rfl, Nat.le_of_ble_eq_true rfl⟩ hP hK hN [0, 1, 2, 3] [0] rfl rfl 0 2 rfl rfl rfl (lv_nil hl) rfl (Nat.le_of_ble_eq_true rfl) dL_law_640 ?_
  have jn651 : W p l e room_1 s m #[Value.ref b] below meth c H locs 190 1523 Q (F0 m 651 ls (.int ((if j_X2_points vp1 vp2 0 ≤ j_X2_points vp1 vp2 1 then 0 else 1) : Int32) :: [.int f])) := by
    refine lv_iadd hx hb dL_law_651 ?_
    rw [e1]
    refine lv_istore_n (lv' := [(2, .int vw1), (7, .int sp), (5, .int (nI dd)), (4, .int 1), (3, .int g), (1, .ref a0), (0, .ref b)]) hx hb dL_law_652 rfl hl (by decide) rfl (fun ls hl => ?_)
    refine lv_iload_n hx hb dL_law_653 rfl (lv_at hl 4 rfl) ?_
    refine lv_aload_n hx hb dL_law_654 rfl (lv_at hl 5 rfl) ?_
    refine lv_iconst (v := 1) hx hb dL_law_655 (by decide) ?_
    refine jr_callV (n := 1) (C := RX2) (As := [.int 1]) (rest := [.int g]) S (c_X2_points a0 aR aF aG cI vrow vdrawn vtr vled vmov vw1 vw2 veo veb vh1 vt1 vp1 vk1 vg1 vh2 vt2 vp2 vk2 vg2 1 hA1) gL_law_X2_points rfl (by decide +kernel) rfl ⟨⟨rfl, rfl⟩, ⟨Nat.le_of_ble_eq_true rfl, Nat.le_of_ble_eq_true rfl⟩, Nat.le_of_ble_eq_true rfl, Nat.le_of_ble_eq_true rfl⟩ hP hK hN [0, 1, 2, 3] [0] rfl rfl 0 2 rfl rfl rfl (lv_nil hl) rfl (Nat.le_of_ble_eq_true rfl) dL_law_656 ?_
    refine lv_aload_n hx hb dL_law_659 rfl (lv_at hl 5 rfl) ?_
    refine lv_iconst (v := 0) hx hb dL_law_660 (by decide) ?_
    refine jr_callV (n := 1) (C := RX2) (As := [.int 0]) (rest := [.int (j_X2_points vp1 vp2 1), .int g]) S (c_X2_points a0 aR aF aG cI vrow vdrawn vtr vled vmov vw1 vw2 veo veb vh1 vt1 vp1 vk1 vg1 vh2 vt2 vp2 vk2 vg2 0 hA0) gL_law_X2_points rfl (by decide +kernel) rfl ⟨⟨rfl, rfl⟩, ⟨Nat.le_of_ble_eq_true rfl, Nat.le_of_ble_eq_true rfl⟩, Nat.le_of_ble_eq_true rfl, Nat.le_of_ble_eq_true rfl⟩ hP hK hN [0, 1, 2, 3] [0] rfl rfl 0 2 rfl rfl rfl (lv_nil hl) rfl (Nat.le_of_ble_eq_true rfl) dL_law_661 ?_
    have jn672 : W p l e room_1 s m #[Value.ref b] below meth c H locs 190 1523 Q (F0 m 672 ls (.int ((if j_X2_points vp1 vp2 1 ≤ j_X2_points vp1 vp2 0 then 0 else 1) : Int32) :: [.int g])) := by
      refine lv_iadd hx hb dL_law_672 ?_
      rw [e2]
      refine lv_istore_n (lv' := [(3, .int vw2), (2, .int vw1), (7, .int sp), (5, .int (nI dd)), (4, .int 1), (1, .ref a0), (0, .ref b)]) hx hb dL_law_673 rfl hl (by decide) rfl (fun ls hl => ?_)
      refine lv_iload hx hb dL_law_674 (lv_at hl 4 rfl) ?_
      refine lv_if_eq (tgt := 752) hx hb dL_law_676 (by decide) (fun c_ => absurd c_ (by decide)) (fun _ => ?_)
      refine lv_aload_n hx hb dL_law_679 rfl (lv_at hl 5 rfl) ?_
      refine lv_iconst (v := 0) hx hb dL_law_680 (by decide) ?_
      refine jr_callV (n := 1) (C := RX2) (As := [.int 0]) (rest := []) S (c_X2_tricks a0 aR aF aG cI vrow vdrawn vtr vled vmov vw1 vw2 veo veb vh1 vt1 vp1 vk1 vg1 vh2 vt2 vp2 vk2 vg2 0 hA0) gL_law_X2_tricks rfl (by decide +kernel) rfl ⟨⟨rfl, rfl⟩, ⟨Nat.le_of_ble_eq_true rfl, Nat.le_of_ble_eq_true rfl⟩, Nat.le_of_ble_eq_true rfl, Nat.le_of_ble_eq_true rfl⟩ hP hK hN [0, 1, 2, 3] [0] rfl rfl 0 2 rfl rfl rfl (lv_nil hl) rfl (Nat.le_of_ble_eq_true rfl) dL_law_681 ?_
      refine lv_aload_n hx hb dL_law_684 rfl (lv_at hl 5 rfl) ?_
      refine lv_iconst (v := 1) hx hb dL_law_685 (by decide) ?_
      refine jr_callV (n := 1) (C := RX2) (As := [.int 1]) (rest := [.int (j_X2_tricks vk1 vk2 0)]) S (c_X2_tricks a0 aR aF aG cI vrow vdrawn vtr vled vmov vw1 vw2 veo veb vh1 vt1 vp1 vk1 vg1 vh2 vt2 vp2 vk2 vg2 1 hA1) gL_law_X2_tricks rfl (by decide +kernel) rfl ⟨⟨rfl, rfl⟩, ⟨Nat.le_of_ble_eq_true rfl, Nat.le_of_ble_eq_true rfl⟩, Nat.le_of_ble_eq_true rfl, Nat.le_of_ble_eq_true rfl⟩ hP hK hN [0, 1, 2, 3] [0] rfl rfl 0 2 rfl rfl rfl (lv_nil hl) rfl (Nat.le_of_ble_eq_true rfl) dL_law_686 ?_
      refine lv_iadd hx hb dL_law_689 ?_
      refine lv_bipush (v := 21) hx hb dL_law_690 (by decide) ?_
      refine lv_icmp_ne (tgt := 752) hx hb dL_law_692 (by decide) (fun c_ => absurd c1 c_) (fun _ => ?_)
      refine lv_aload_n hx hb dL_law_695 rfl (lv_at hl 5 rfl) ?_
      refine lv_iconst (v := 0) hx hb dL_law_696 (by decide) ?_
      refine jr_callV (n := 1) (C := RX2) (As := [.int 0]) (rest := []) S (c_X2_points a0 aR aF aG cI vrow vdrawn vtr vled vmov vw1 vw2 veo veb vh1 vt1 vp1 vk1 vg1 vh2 vt2 vp2 vk2 vg2 0 hA0) gL_law_X2_points rfl (by decide +kernel) rfl ⟨⟨rfl, rfl⟩, ⟨Nat.le_of_ble_eq_true rfl, Nat.le_of_ble_eq_true rfl⟩, Nat.le_of_ble_eq_true rfl, Nat.le_of_ble_eq_true rfl⟩ hP hK hN [0, 1, 2, 3] [0] rfl rfl 0 2 rfl rfl rfl (lv_nil hl) rfl (Nat.le_of_ble_eq_true rfl) dL_law_697 ?_
      refine lv_aload_n hx hb dL_law_700 rfl (lv_at hl 5 rfl) ?_
      refine lv_iconst (v := 1) hx hb dL_law_701 (by decide) ?_
      refine jr_callV (n := 1) (C := RX2) (As := [.int 1]) (rest := [.int (j_X2_points vp1 vp2 0)]) S (c_X2_points a0 aR aF aG cI vrow vdrawn vtr vled vmov vw1 vw2 veo veb vh1 vt1 vp1 vk1 vg1 vh2 vt2 vp2 vk2 vg2 1 hA1) gL_law_X2_points rfl (by decide +kernel) rfl ⟨⟨rfl, rfl⟩, ⟨Nat.le_of_ble_eq_true rfl, Nat.le_of_ble_eq_true rfl⟩, Nat.le_of_ble_eq_true rfl, Nat.le_of_ble_eq_true rfl⟩ hP hK hN [0, 1, 2, 3] [0] rfl rfl 0 2 rfl rfl rfl (lv_nil hl) rfl (Nat.le_of_ble_eq_true rfl) dL_law_702 ?_
      refine lv_iadd hx hb dL_law_705 ?_
      refine lv_sipush (v := 210) hx hb dL_law_706 (by decide) ?_
      refine lv_iconst (v := 5) hx hb dL_law_709 (by decide) ?_
      refine lv_iload hx hb dL_law_710 (lv_at hl 2 rfl) ?_
      refine lv_imul hx hb dL_law_712 ?_
      refine lv_iadd hx hb dL_law_713 ?_
      refine lv_icmp_ne (tgt := 752) hx hb dL_law_714 (by decide) (fun c_ => absurd c2 c_) (fun _ => ?_)
      refine lv_aload_n hx hb dL_law_717 rfl (lv_at hl 5 rfl) ?_
      refine jr_callV (n := 0) (C := RX2) (As := []) (rest := []) S (c_X2_wonByFirst a0 aR aF aG cI vrow vdrawn vtr vled vmov vw1 vw2 veo veb vh1 vt1 vp1 vk1 vg1 vh2 vt2 vp2 vk2 vg2) gL_law_X2_wonByFirst rfl (by decide +kernel) rfl ⟨⟨rfl, rfl⟩, ⟨Nat.le_of_ble_eq_true rfl, Nat.le_of_ble_eq_true rfl⟩, Nat.le_of_ble_eq_true rfl, Nat.le_of_ble_eq_true rfl⟩ hP hK hN [0, 1, 2, 3] [0] rfl rfl 0 2 rfl rfl rfl (lv_nil hl) rfl (Nat.le_of_ble_eq_true rfl) dL_law_718 ?_
      refine lv_iload_n hx hb dL_law_721 rfl (lv_at hl 1 rfl) ?_
      refine lv_icmp_ne (tgt := 752) hx hb dL_law_722 (by decide) (fun c_ => absurd c3 c_) (fun _ => ?_)
      refine lv_aload_n hx hb dL_law_725 rfl (lv_at hl 5 rfl) ?_
      refine jr_callV (n := 0) (C := RX2) (As := []) (rest := []) S (c_X2_wonBySecond a0 aR aF aG cI vrow vdrawn vtr vled vmov vw1 vw2 veo veb vh1 vt1 vp1 vk1 vg1 vh2 vt2 vp2 vk2 vg2) gL_law_X2_wonBySecond rfl (by decide +kernel) rfl ⟨⟨rfl, rfl⟩, ⟨Nat.le_of_ble_eq_true rfl, Nat.le_of_ble_eq_true rfl⟩, Nat.le_of_ble_eq_true rfl, Nat.le_of_ble_eq_true rfl⟩ hP hK hN [0, 1, 2, 3] [0] rfl rfl 0 2 rfl rfl rfl (lv_nil hl) rfl (Nat.le_of_ble_eq_true rfl) dL_law_726 ?_
      refine lv_iload_n hx hb dL_law_729 rfl (lv_at hl 0 rfl) ?_
      refine lv_icmp_ne (tgt := 752) hx hb dL_law_730 (by decide) (fun c_ => absurd c4 c_) (fun _ => ?_)
      refine lv_aload_n hx hb dL_law_733 rfl (lv_at hl 5 rfl) ?_
      refine jr_callV (n := 0) (C := RX2) (As := []) (rest := []) S (c_X2_turn a0 aR aF aG cI vrow vdrawn vtr vled vmov vw1 vw2 veo veb vh1 vt1 vp1 vk1 vg1 vh2 vt2 vp2 vk2 vg2) gL_law_X2_turn rfl (by decide +kernel) rfl ⟨⟨rfl, rfl⟩, ⟨Nat.le_of_ble_eq_true rfl, Nat.le_of_ble_eq_true rfl⟩, Nat.le_of_ble_eq_true rfl, Nat.le_of_ble_eq_true rfl⟩ hP hK hN [0, 1, 2, 3] [0] rfl rfl 0 2 rfl rfl rfl (lv_nil hl) rfl (Nat.le_of_ble_eq_true rfl) dL_law_734 ?_
      refine lv_iconst (v := (-1)) hx hb dL_law_737 (by decide) ?_
      refine lv_icmp_ne (tgt := 752) hx hb dL_law_738 (by decide) (fun c_ => absurd c5 c_) (fun _ => ?_)
      refine lv_aload_n hx hb dL_law_741 rfl (lv_at hl 5 rfl) ?_
      refine jr_callV (n := 0) (C := RX2) (As := []) (rest := []) S (c_X2_choices a0 aR aF aG cI vrow vdrawn vtr vled vmov vw1 vw2 veo veb vh1 vt1 vp1 vk1 vg1 vh2 vt2 vp2 vk2 vg2) gL_law_X2_choices rfl (by decide +kernel) rfl ⟨⟨rfl, rfl⟩, ⟨Nat.le_of_ble_eq_true rfl, Nat.le_of_ble_eq_true rfl⟩, Nat.le_of_ble_eq_true rfl, Nat.le_of_ble_eq_true rfl⟩ hP hK hN [0, 1, 2, 3] [0] rfl rfl 0 2 rfl rfl rfl (lv_nil hl) rfl (Nat.le_of_ble_eq_true rfl) dL_law_742 ?_
      refine lv_if_ne (tgt := 752) hx hb dL_law_745 (by decide) (fun c_ => absurd c6 c_) (fun _ => ?_)
      refine lv_iconst (v := 1) hx hb dL_law_748 (by decide) ?_
      refine lv_goto (tgt := 753) hx hb dL_law_749 (by decide) ?_
      refine lv_istore (lv' := [(4, .int 1), (3, .int vw2), (2, .int vw1), (7, .int sp), (5, .int (nI dd)), (1, .ref a0), (0, .ref b)]) hx hb dL_law_753 hl (by decide) rfl (fun ls hl => ?_)
      refine lv_iinc (v := nI (dd + 1)) (lv' := [(5, .int (nI (dd + 1))), (4, .int 1), (3, .int vw2), (2, .int vw1), (7, .int sp), (1, .ref a0), (0, .ref b)]) hx hb dL_law_755 hl (k := 4) rfl (nI_1 dd) (by decide) rfl (fun ls hl => ?_)
      refine lv_goto (tgt := 18) hx hb dL_law_758 (by decide) ?_
      exact kk ls (lv_sub hl [0, 1, 3, 2, 5, 6] rfl)
    refine lv_icmp_le (tgt := 671) hx hb dL_law_664 (by decide) (fun c_2 => ?_) (fun c_2 => ?_)
    · skip
      refine lv_iconst (v := 0) hx hb dL_law_671 (by decide) ?_
      exact jr_eqi (by simp only [id, if_pos c1, if_pos c2, if_pos c3, if_pos c4, if_pos c5, if_pos c6, if_pos c_2]) jn672
    · skip
      refine lv_iconst (v := 1) hx hb dL_law_667 (by decide) ?_
      refine lv_goto (tgt := 672) hx hb dL_law_668 (by decide) ?_
      exact jr_eqi (by simp only [id, if_pos c1, if_pos c2, if_pos c3, if_pos c4, if_pos c5, if_pos c6, if_neg c_2]) jn672
  refine lv_icmp_le (tgt := 650) hx hb dL_law_643 (by decide) (fun c_1 => ?_) (fun c_1 => ?_)
  · skip
    refine lv_iconst (v := 0) hx hb dL_law_650 (by decide) ?_
    exact jr_eqi (by simp only [id, if_pos c1, if_pos c2, if_pos c3, if_pos c4, if_pos c5, if_pos c6, if_pos c_1]) jn651
  · skip
    refine lv_iconst (v := 1) hx hb dL_law_646 (by decide) ?_
    refine lv_goto (tgt := 651) hx hb dL_law_647 (by decide) ?_
    exact jr_eqi (by simp only [id, if_pos c1, if_pos c2, if_pos c3, if_pos c4, if_pos c5, if_pos c6, if_neg c_1]) jn651
end PZ
