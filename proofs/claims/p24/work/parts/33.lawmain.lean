/-! P24: THE LAW'S BODY (laid by wip/p24/lawmain.py) -/
def pz_X (l : Launch) (p : Program) (s : State) (m : MethodId) (c : Code) (b L : Nat) (xs : Nat → Int32) (D : va_G) (A : Nat → Prop) (cI : ClassId) : Prop :=
  CallFix p m c cL_law 19 s #[Value.ref b] wsL_law RL ∧ jN s ∧ va_X b L xs s s.heap ∧ b < s.heap.size ∧ ¬ A b ∧ (∀ q : Nat, s.heap.size ≤ q → A q) ∧ va_K D vwCl [(cI, .int)] s ∧ L ≤ 260
theorem pz_arch {a : Nat} (ha : a < 2) : ¬ j_X2_isArchivist (nI a) = 0 := by
  have : ∀ a, a < 2 → ¬ j_X2_isArchivist (nI a) = 0 := by decide
  exact this a ha
section PZ
variable {p : Program} {l : Launch} {e : Env} {s : State} {m : MethodId} {below : List Frame} {meth : Method} {c : Code} {H : Heap} {locs : List Loc} {Q : State → Prop} {ls : Array Slot}
variable {b L : Nat} {xs : Nat → Int32} {D : va_G} {A : Nat → Prop} {cI : ClassId} {a0 aR aF aG : Nat}
variable {vrow : Nat → Int32} {vdrawn vtr vled vmov vw1 vw2 : Int32} {veo : Option Nat} {veb : Int32} {vh1 vt1 : Int64} {vp1 vk1 vg1 : Int32} {vh2 vt2 : Int64} {vp2 vk2 vg2 : Int32} {sp f g : Int32} {n dd a a' : Nat} {up : Nat → Int32}
set_option maxRecDepth 100000 in
set_option maxHeartbeats 8000000 in
theorem pz_pick (X : pz_X l p s m c b L xs D A cI) {E r : Nat} (hV : pq_V vdrawn vtr vled vmov vh1 vt1 vp1 vk1 vh2 vt2 vp2 vk2 sp up E) (hab : a + a' = 1) (hm : vmov = nI a) (hr : r < 60) (hP : va_P D vwCl (jC a0 aR aF aG cI vrow vdrawn vtr vled vmov vw1 vw2 veo veb vh1 vt1 vp1 vk1 vg1 vh2 vt2 vp2 vk2 vg2) H) (hD : va_D A (jC a0 aR aF aG cI vrow vdrawn vtr vled vmov vw1 vw2 veo veb vh1 vt1 vp1 vk1 vg1 vh2 vt2 vp2 vk2 vg2)) (hS : va_S A s.heap H locs) (hl : lv_has ls 19 [(9, .int (nI r)), (8, .int (nI a)), (7, .int sp), (5, .int (nI dd)), (4, .int 1), (2, .int f), (3, .int g), (1, .ref a0), (0, .ref b)])
    (kk : ∀ (d : Nat) (ls : Array Slot), d < 42 → up d = nI a → j_X2_reasonAgainst vdrawn vtr vled vmov vh1 vh2 (nI d) = 0 → lv_has ls 19 [(11, .int (nI d)), (8, .int (nI a)), (7, .int sp), (5, .int (nI dd)), (4, .int 1), (2, .int f), (3, .int g), (1, .ref a0), (0, .ref b)] → W p l e room_1 s m #[Value.ref b] below meth c H locs 190 1523 Q (F0 m 259 ls [])) : W p l e room_1 s m #[Value.ref b] below meth c H locs 190 1523 Q (F0 m 193 ls []) := by
  obtain ⟨S, hN, hXs, hbl, hbA, hA, hK, hL260⟩ := id X
  obtain ⟨hx, hb, hml, hown, hts⟩ := id S
  obtain ⟨hpl, lo, ⟨g1, g2⟩, htr, ⟨n06, n16⟩, ⟨hE, hdr, hn2⟩, _, _, hmv⟩ := id hV
  have ha : a < 2 := by omega
  have hAa := pz_arch ha
  have eA : j_X2_cards vh1 vh2 (nI a) = nI (zl_nn up a) := pq_ca ha g1 g2
  have hna : zl_nn up a ≤ 6 := by
    have : a = 0 ∨ a = 1 := by omega
    rcases this with e | e
    · subst e; exact n06
    · subst e; exact n16
  have hn1 : 1 ≤ zl_nn up a := by
    rcases hmv with ⟨m1, _⟩ | ⟨a', b', _, m1, _, h1, _⟩
    · exact absurd (hm.symm.trans m1) (zs_nm1 a (by omega))
    · have : a' = a := (nI_eq (by omega) (by omega)).mp (m1.symm.trans hm)
      rw [← this]; exact h1
  have cat : ∀ c, c < 42 → zl_p up a c = true → (fun j => (j_X2_cardAt vh1 vh2 (nI a) (nI j)).toNatClampNeg) (fb_ct (zl_p up a) c) = c := fun c hc h => by
    show (j_X2_cardAt vh1 vh2 (nI a) (nI (fb_ct (zl_p up a) c))).toNatClampNeg = c
    rw [pq_at ha g1 g2 hc (of_decide_eq_true h), nI_clamp (by omega)]
  have hAL : fb_ct (fun j => decide (j_X2_reasonAgainst vdrawn vtr vled (nI a) vh1 vh2 (nI (j_X2_cardAt vh1 vh2 (nI a) (nI j)).toNatClampNeg) = 0)) (zl_nn up a) = pq_AL vdrawn vtr vled vh1 vh2 up a := pq_over (q := fun c => decide (j_X2_reasonAgainst vdrawn vtr vled (nI a) vh1 vh2 (nI c) = 0)) cat 42 (Nat.le_refl _)
  have cch : j_X2_choices vdrawn vtr vled vmov vh1 vh2 = nI (pq_AL vdrawn vtr vled vh1 vh2 up a) := by rw [hm, pq_choices ha g1 g2]
  have cle := pq_AL_le vdrawn vtr vled vh1 vh2 up a
  have cpos := pq_some (vdrawn := vdrawn) (vtr := vtr) ha g1 g2 lo hE hdr htr hn1
  have hne0 : ¬ nI (pq_AL vdrawn vtr vled vh1 vh2 up a) = 0 := nI_ne0 cpos (by omega)
  obtain ⟨q0, hq0, erem⟩ : ∃ q0, q0 < pq_AL vdrawn vtr vled vh1 vh2 up a ∧ (nI r) - (nI r) / (nI (pq_AL vdrawn vtr vled vh1 vh2 up a)) * (nI (pq_AL vdrawn vtr vled vh1 vh2 up a)) = nI q0 := ⟨r % pq_AL vdrawn vtr vled vh1 vh2 up a, Nat.mod_lt _ cpos, pk_rem (by omega) cpos (by omega)⟩
  have lp : ∀ (n k q : Nat) (x : Int32), k + n = zl_nn up a → q + fb_ct (fun j => decide (j_X2_reasonAgainst vdrawn vtr vled (nI a) vh1 vh2 (nI (j_X2_cardAt vh1 vh2 (nI a) (nI j)).toNatClampNeg) = 0)) k = q0 → ∀ (ls : Array Slot), lv_has ls 19 [(10, .int (nI q)), (11, .int x), (12, .int (nI k)), (8, .int (nI a)), (7, .int sp), (5, .int (nI dd)), (4, .int 1), (2, .int f), (3, .int g), (1, .ref a0), (0, .ref b)] → W p l e room_1 s m #[Value.ref b] below meth c H locs 190 1523 Q (F0 m 208 ls []) := by
    intro n
    induction n with
    | zero =>
      intro k q x hkn hq ls hl
      exfalso
      have ek : k = zl_nn up a := by omega
      rw [ek, hAL] at hq
      omega
    | succ n ih =>
      intro k q x hkn hq ls hl
      obtain ⟨d, hd, ud, ed, cd⟩ := pq_kth (vh1 := vh1) (vh2 := vh2) ha g1 g2 (show k < zl_nn up a by omega)
      have hcd : ¬ j_X2_isCard (nI d) = 0 := by rw [zr_isCard hd]; decide
      have hne : ¬ j_X2_cardAt vh1 vh2 (nI a) (nI k) = -1 := by rw [cd]; exact zs_nm1 d hd
      have c1 : ¬ j_X2_cards vh1 vh2 (nI a) ≤ nI k := by rw [eA]; exact nI_ge (by omega) (by omega)
      have c2 : ¬ nI q < 0 := nI_pos (by omega)
      have kd : (j_X2_cardAt vh1 vh2 (nI a) (nI k)).toNatClampNeg = d := by rw [cd, nI_clamp (by omega)]
      have fa : fb_ct (fun j => decide (j_X2_reasonAgainst vdrawn vtr vled (nI a) vh1 vh2 (nI (j_X2_cardAt vh1 vh2 (nI a) (nI j)).toNatClampNeg) = 0)) (k + 1) = fb_ct (fun j => decide (j_X2_reasonAgainst vdrawn vtr vled (nI a) vh1 vh2 (nI (j_X2_cardAt vh1 vh2 (nI a) (nI j)).toNatClampNeg) = 0)) k + (if j_X2_reasonAgainst vdrawn vtr vled (nI a) vh1 vh2 (nI d) = 0 then 1 else 0) := by
        rw [fb_ct_succ, kd]
        by_cases q : j_X2_reasonAgainst vdrawn vtr vled (nI a) vh1 vh2 (nI d) = 0
        · simp [q]
        · simp [q]
      by_cases hR0 : j_X2_reasonAgainst vdrawn vtr vled (nI a) vh1 vh2 (nI d) = 0
      · have hRm : j_X2_reasonAgainst vdrawn vtr vled vmov vh1 vh2 (nI d) = 0 := by rw [hm]; exact hR0
        have c3 : j_X2_whyNot vdrawn vtr vled vmov vh1 vh2 (nI d) = 0 := hRm
        rcases Nat.eq_zero_or_pos q with q00 | q00
        · have em : nI q - 1 = (-1) := by rw [q00]; decide
          refine lv_iload hx hb dL_law_208 (lv_at hl 2 rfl) ?_
          refine lv_aload_n hx hb dL_law_210 rfl (lv_at hl 9 rfl) ?_
          refine lv_iload hx hb dL_law_211 (lv_at hl 3 rfl) ?_
          refine jr_callV (n := 1) (C := RX2) (As := [.int (nI a)]) (rest := [.int (nI k)]) S (c_X2_cards a0 aR aF aG cI vrow vdrawn vtr vled vmov vw1 vw2 veo veb vh1 vt1 vp1 vk1 vg1 vh2 vt2 vp2 vk2 vg2 (nI a) hAa) gL_law_X2_cards rfl (by decide +kernel) rfl ⟨⟨rfl, rfl⟩, ⟨Nat.le_of_ble_eq_true rfl, Nat.le_of_ble_eq_true rfl⟩, Nat.le_of_ble_eq_true rfl, Nat.le_of_ble_eq_true rfl⟩ hP hK hN [0, 1, 2, 3] [0] rfl rfl 0 2 rfl rfl rfl (lv_nil hl) rfl (Nat.le_of_ble_eq_true rfl) dL_law_213 ?_
          refine lv_icmp_ge (tgt := 259) hx hb dL_law_216 (by decide) (fun c_ => absurd c_ c1) (fun _ => ?_)
          refine lv_iload hx hb dL_law_219 (lv_at hl 0 rfl) ?_
          refine lv_if_lt (tgt := 259) hx hb dL_law_221 (by decide) (fun c_ => absurd c_ c2) (fun _ => ?_)
          refine lv_aload_n hx hb dL_law_224 rfl (lv_at hl 9 rfl) ?_
          refine lv_iload hx hb dL_law_225 (lv_at hl 3 rfl) ?_
          refine lv_iload hx hb dL_law_227 (lv_at hl 2 rfl) ?_
          refine jr_callV (n := 2) (C := RX2) (As := [.int (nI a), .int (nI k)]) (rest := []) S (c_X2_cardAt a0 aR aF aG cI vrow vdrawn vtr vled vmov vw1 vw2 veo veb vh1 vt1 vp1 vk1 vg1 vh2 vt2 vp2 vk2 vg2 (nI a) (nI k) hne hAa) gL_law_X2_cardAt rfl (by decide +kernel) rfl ⟨⟨rfl, rfl⟩, ⟨Nat.le_of_ble_eq_true rfl, Nat.le_of_ble_eq_true rfl⟩, Nat.le_of_ble_eq_true rfl, Nat.le_of_ble_eq_true rfl⟩ hP hK hN [0, 1, 2, 3] [0] rfl rfl 0 2 rfl rfl rfl (lv_nil hl) rfl (Nat.le_of_ble_eq_true rfl) dL_law_229 ?_
          rw [cd]
          refine lv_istore (lv' := [(11, .int (nI d)), (10, .int (nI q)), (12, .int (nI k)), (8, .int (nI a)), (7, .int sp), (5, .int (nI dd)), (4, .int 1), (2, .int f), (3, .int g), (1, .ref a0), (0, .ref b)]) hx hb dL_law_232 hl (by decide) rfl (fun ls hl => ?_)
          refine lv_iload hx hb dL_law_234 (lv_at hl 1 rfl) ?_
          refine lv_aload_n hx hb dL_law_236 rfl (lv_at hl 9 rfl) ?_
          refine lv_iload hx hb dL_law_237 (lv_at hl 0 rfl) ?_
          refine jr_callV (n := 1) (C := RX2) (As := [.int (nI d)]) (rest := [.int (nI q)]) S (c_X2_whyNot a0 aR aF aG cI vrow vdrawn vtr vled vmov vw1 vw2 veo veb vh1 vt1 vp1 vk1 vg1 vh2 vt2 vp2 vk2 vg2 (nI d) hcd) gL_law_X2_whyNot rfl (by decide +kernel) rfl ⟨⟨rfl, rfl⟩, ⟨Nat.le_of_ble_eq_true rfl, Nat.le_of_ble_eq_true rfl⟩, Nat.le_of_ble_eq_true rfl, Nat.le_of_ble_eq_true rfl⟩ hP hK hN [0, 1, 2, 3] [0] rfl rfl 0 2 rfl rfl rfl (lv_nil hl) rfl (Nat.le_of_ble_eq_true rfl) dL_law_239 ?_
          refine lv_if_ne (tgt := 249) hx hb dL_law_242 (by decide) (fun c_ => absurd c3 c_) (fun _ => ?_)
          refine lv_iconst (v := 1) hx hb dL_law_245 (by decide) ?_
          refine lv_goto (tgt := 250) hx hb dL_law_246 (by decide) ?_
          refine lv_isub hx hb dL_law_250 ?_
          rw [em]
          refine lv_istore (lv' := [(10, .int (-1)), (11, .int (nI d)), (12, .int (nI k)), (8, .int (nI a)), (7, .int sp), (5, .int (nI dd)), (4, .int 1), (2, .int f), (3, .int g), (1, .ref a0), (0, .ref b)]) hx hb dL_law_251 hl (by decide) rfl (fun ls hl => ?_)
          refine lv_iinc (v := nI (k + 1)) (lv' := [(12, .int (nI (k + 1))), (10, .int (-1)), (11, .int (nI d)), (8, .int (nI a)), (7, .int sp), (5, .int (nI dd)), (4, .int 1), (2, .int f), (3, .int g), (1, .ref a0), (0, .ref b)]) hx hb dL_law_253 hl (k := 2) rfl (nI_1 k) (by decide) rfl (fun ls hl => ?_)
          refine lv_goto (tgt := 208) hx hb dL_law_256 (by decide) ?_
          refine lv_iload hx hb dL_law_208 (lv_at hl 0 rfl) ?_
          refine lv_aload_n hx hb dL_law_210 rfl (lv_at hl 9 rfl) ?_
          refine lv_iload hx hb dL_law_211 (lv_at hl 3 rfl) ?_
          refine jr_callV (n := 1) (C := RX2) (As := [.int (nI a)]) (rest := [.int (nI (k + 1))]) S (c_X2_cards a0 aR aF aG cI vrow vdrawn vtr vled vmov vw1 vw2 veo veb vh1 vt1 vp1 vk1 vg1 vh2 vt2 vp2 vk2 vg2 (nI a) hAa) gL_law_X2_cards rfl (by decide +kernel) rfl ⟨⟨rfl, rfl⟩, ⟨Nat.le_of_ble_eq_true rfl, Nat.le_of_ble_eq_true rfl⟩, Nat.le_of_ble_eq_true rfl, Nat.le_of_ble_eq_true rfl⟩ hP hK hN [0, 1, 2, 3] [0] rfl rfl 0 2 rfl rfl rfl (lv_nil hl) rfl (Nat.le_of_ble_eq_true rfl) dL_law_213 ?_
          refine lv_icmp_ge (tgt := 259) hx hb dL_law_216 (by decide) (fun c_1 => ?_) (fun c_1 => ?_)
          · skip
            exact kk d ls hd ud hRm (lv_sub hl [2, 3, 4, 5, 6, 7, 8, 9, 10] rfl)
          · skip
            refine lv_iload hx hb dL_law_219 (lv_at hl 1 rfl) ?_
            refine lv_if_lt (tgt := 259) hx hb dL_law_221 (by decide) (fun _ => ?_) (fun c_ => absurd (by decide) c_)
            exact kk d ls hd ud hRm (lv_sub hl [2, 3, 4, 5, 6, 7, 8, 9, 10] rfl)
        · obtain ⟨q9, e9⟩ : ∃ q9, q = q9 + 1 := ⟨q - 1, by omega⟩
          have em : nI q - 1 = nI q9 := by rw [e9]; exact nI_pred q9
          refine lv_iload hx hb dL_law_208 (lv_at hl 2 rfl) ?_
          refine lv_aload_n hx hb dL_law_210 rfl (lv_at hl 9 rfl) ?_
          refine lv_iload hx hb dL_law_211 (lv_at hl 3 rfl) ?_
          refine jr_callV (n := 1) (C := RX2) (As := [.int (nI a)]) (rest := [.int (nI k)]) S (c_X2_cards a0 aR aF aG cI vrow vdrawn vtr vled vmov vw1 vw2 veo veb vh1 vt1 vp1 vk1 vg1 vh2 vt2 vp2 vk2 vg2 (nI a) hAa) gL_law_X2_cards rfl (by decide +kernel) rfl ⟨⟨rfl, rfl⟩, ⟨Nat.le_of_ble_eq_true rfl, Nat.le_of_ble_eq_true rfl⟩, Nat.le_of_ble_eq_true rfl, Nat.le_of_ble_eq_true rfl⟩ hP hK hN [0, 1, 2, 3] [0] rfl rfl 0 2 rfl rfl rfl (lv_nil hl) rfl (Nat.le_of_ble_eq_true rfl) dL_law_213 ?_
          refine lv_icmp_ge (tgt := 259) hx hb dL_law_216 (by decide) (fun c_ => absurd c_ c1) (fun _ => ?_)
          refine lv_iload hx hb dL_law_219 (lv_at hl 0 rfl) ?_
          refine lv_if_lt (tgt := 259) hx hb dL_law_221 (by decide) (fun c_ => absurd c_ c2) (fun _ => ?_)
          refine lv_aload_n hx hb dL_law_224 rfl (lv_at hl 9 rfl) ?_
          refine lv_iload hx hb dL_law_225 (lv_at hl 3 rfl) ?_
          refine lv_iload hx hb dL_law_227 (lv_at hl 2 rfl) ?_
          refine jr_callV (n := 2) (C := RX2) (As := [.int (nI a), .int (nI k)]) (rest := []) S (c_X2_cardAt a0 aR aF aG cI vrow vdrawn vtr vled vmov vw1 vw2 veo veb vh1 vt1 vp1 vk1 vg1 vh2 vt2 vp2 vk2 vg2 (nI a) (nI k) hne hAa) gL_law_X2_cardAt rfl (by decide +kernel) rfl ⟨⟨rfl, rfl⟩, ⟨Nat.le_of_ble_eq_true rfl, Nat.le_of_ble_eq_true rfl⟩, Nat.le_of_ble_eq_true rfl, Nat.le_of_ble_eq_true rfl⟩ hP hK hN [0, 1, 2, 3] [0] rfl rfl 0 2 rfl rfl rfl (lv_nil hl) rfl (Nat.le_of_ble_eq_true rfl) dL_law_229 ?_
          rw [cd]
          refine lv_istore (lv' := [(11, .int (nI d)), (10, .int (nI q)), (12, .int (nI k)), (8, .int (nI a)), (7, .int sp), (5, .int (nI dd)), (4, .int 1), (2, .int f), (3, .int g), (1, .ref a0), (0, .ref b)]) hx hb dL_law_232 hl (by decide) rfl (fun ls hl => ?_)
          refine lv_iload hx hb dL_law_234 (lv_at hl 1 rfl) ?_
          refine lv_aload_n hx hb dL_law_236 rfl (lv_at hl 9 rfl) ?_
          refine lv_iload hx hb dL_law_237 (lv_at hl 0 rfl) ?_
          refine jr_callV (n := 1) (C := RX2) (As := [.int (nI d)]) (rest := [.int (nI q)]) S (c_X2_whyNot a0 aR aF aG cI vrow vdrawn vtr vled vmov vw1 vw2 veo veb vh1 vt1 vp1 vk1 vg1 vh2 vt2 vp2 vk2 vg2 (nI d) hcd) gL_law_X2_whyNot rfl (by decide +kernel) rfl ⟨⟨rfl, rfl⟩, ⟨Nat.le_of_ble_eq_true rfl, Nat.le_of_ble_eq_true rfl⟩, Nat.le_of_ble_eq_true rfl, Nat.le_of_ble_eq_true rfl⟩ hP hK hN [0, 1, 2, 3] [0] rfl rfl 0 2 rfl rfl rfl (lv_nil hl) rfl (Nat.le_of_ble_eq_true rfl) dL_law_239 ?_
          refine lv_if_ne (tgt := 249) hx hb dL_law_242 (by decide) (fun c_ => absurd c3 c_) (fun _ => ?_)
          refine lv_iconst (v := 1) hx hb dL_law_245 (by decide) ?_
          refine lv_goto (tgt := 250) hx hb dL_law_246 (by decide) ?_
          refine lv_isub hx hb dL_law_250 ?_
          rw [em]
          refine lv_istore (lv' := [(10, .int (nI q9)), (11, .int (nI d)), (12, .int (nI k)), (8, .int (nI a)), (7, .int sp), (5, .int (nI dd)), (4, .int 1), (2, .int f), (3, .int g), (1, .ref a0), (0, .ref b)]) hx hb dL_law_251 hl (by decide) rfl (fun ls hl => ?_)
          refine lv_iinc (v := nI (k + 1)) (lv' := [(12, .int (nI (k + 1))), (10, .int (nI q9)), (11, .int (nI d)), (8, .int (nI a)), (7, .int sp), (5, .int (nI dd)), (4, .int 1), (2, .int f), (3, .int g), (1, .ref a0), (0, .ref b)]) hx hb dL_law_253 hl (k := 2) rfl (nI_1 k) (by decide) rfl (fun ls hl => ?_)
          refine lv_goto (tgt := 208) hx hb dL_law_256 (by decide) ?_
          exact ih (k + 1) q9 (nI d) (by omega) (by rw [fa, if_pos hR0]; omega) ls (lv_sub hl [1, 2, 0, 3, 4, 5, 6, 7, 8, 9, 10] rfl)
      · have c3 : ¬ j_X2_whyNot vdrawn vtr vled vmov vh1 vh2 (nI d) = 0 := by intro z; exact hR0 (by rw [← hm]; exact z)
        have em : nI q - 0 = nI q := Int32.sub_zero _
        refine lv_iload hx hb dL_law_208 (lv_at hl 2 rfl) ?_
        refine lv_aload_n hx hb dL_law_210 rfl (lv_at hl 9 rfl) ?_
        refine lv_iload hx hb dL_law_211 (lv_at hl 3 rfl) ?_
        refine jr_callV (n := 1) (C := RX2) (As := [.int (nI a)]) (rest := [.int (nI k)]) S (c_X2_cards a0 aR aF aG cI vrow vdrawn vtr vled vmov vw1 vw2 veo veb vh1 vt1 vp1 vk1 vg1 vh2 vt2 vp2 vk2 vg2 (nI a) hAa) gL_law_X2_cards rfl (by decide +kernel) rfl ⟨⟨rfl, rfl⟩, ⟨Nat.le_of_ble_eq_true rfl, Nat.le_of_ble_eq_true rfl⟩, Nat.le_of_ble_eq_true rfl, Nat.le_of_ble_eq_true rfl⟩ hP hK hN [0, 1, 2, 3] [0] rfl rfl 0 2 rfl rfl rfl (lv_nil hl) rfl (Nat.le_of_ble_eq_true rfl) dL_law_213 ?_
        refine lv_icmp_ge (tgt := 259) hx hb dL_law_216 (by decide) (fun c_ => absurd c_ c1) (fun _ => ?_)
        refine lv_iload hx hb dL_law_219 (lv_at hl 0 rfl) ?_
        refine lv_if_lt (tgt := 259) hx hb dL_law_221 (by decide) (fun c_ => absurd c_ c2) (fun _ => ?_)
        refine lv_aload_n hx hb dL_law_224 rfl (lv_at hl 9 rfl) ?_
        refine lv_iload hx hb dL_law_225 (lv_at hl 3 rfl) ?_
        refine lv_iload hx hb dL_law_227 (lv_at hl 2 rfl) ?_
        refine jr_callV (n := 2) (C := RX2) (As := [.int (nI a), .int (nI k)]) (rest := []) S (c_X2_cardAt a0 aR aF aG cI vrow vdrawn vtr vled vmov vw1 vw2 veo veb vh1 vt1 vp1 vk1 vg1 vh2 vt2 vp2 vk2 vg2 (nI a) (nI k) hne hAa) gL_law_X2_cardAt rfl (by decide +kernel) rfl ⟨⟨rfl, rfl⟩, ⟨Nat.le_of_ble_eq_true rfl, Nat.le_of_ble_eq_true rfl⟩, Nat.le_of_ble_eq_true rfl, Nat.le_of_ble_eq_true rfl⟩ hP hK hN [0, 1, 2, 3] [0] rfl rfl 0 2 rfl rfl rfl (lv_nil hl) rfl (Nat.le_of_ble_eq_true rfl) dL_law_229 ?_
        rw [cd]
        refine lv_istore (lv' := [(11, .int (nI d)), (10, .int (nI q)), (12, .int (nI k)), (8, .int (nI a)), (7, .int sp), (5, .int (nI dd)), (4, .int 1), (2, .int f), (3, .int g), (1, .ref a0), (0, .ref b)]) hx hb dL_law_232 hl (by decide) rfl (fun ls hl => ?_)
        refine lv_iload hx hb dL_law_234 (lv_at hl 1 rfl) ?_
        refine lv_aload_n hx hb dL_law_236 rfl (lv_at hl 9 rfl) ?_
        refine lv_iload hx hb dL_law_237 (lv_at hl 0 rfl) ?_
        refine jr_callV (n := 1) (C := RX2) (As := [.int (nI d)]) (rest := [.int (nI q)]) S (c_X2_whyNot a0 aR aF aG cI vrow vdrawn vtr vled vmov vw1 vw2 veo veb vh1 vt1 vp1 vk1 vg1 vh2 vt2 vp2 vk2 vg2 (nI d) hcd) gL_law_X2_whyNot rfl (by decide +kernel) rfl ⟨⟨rfl, rfl⟩, ⟨Nat.le_of_ble_eq_true rfl, Nat.le_of_ble_eq_true rfl⟩, Nat.le_of_ble_eq_true rfl, Nat.le_of_ble_eq_true rfl⟩ hP hK hN [0, 1, 2, 3] [0] rfl rfl 0 2 rfl rfl rfl (lv_nil hl) rfl (Nat.le_of_ble_eq_true rfl) dL_law_239 ?_
        refine lv_if_ne (tgt := 249) hx hb dL_law_242 (by decide) (fun _ => ?_) (fun c_ => absurd c_ c3)
        refine lv_iconst (v := 0) hx hb dL_law_249 (by decide) ?_
        refine lv_isub hx hb dL_law_250 ?_
        rw [em]
        refine lv_istore (lv' := [(10, .int (nI q)), (11, .int (nI d)), (12, .int (nI k)), (8, .int (nI a)), (7, .int sp), (5, .int (nI dd)), (4, .int 1), (2, .int f), (3, .int g), (1, .ref a0), (0, .ref b)]) hx hb dL_law_251 hl (by decide) rfl (fun ls hl => ?_)
        refine lv_iinc (v := nI (k + 1)) (lv' := [(12, .int (nI (k + 1))), (10, .int (nI q)), (11, .int (nI d)), (8, .int (nI a)), (7, .int sp), (5, .int (nI dd)), (4, .int 1), (2, .int f), (3, .int g), (1, .ref a0), (0, .ref b)]) hx hb dL_law_253 hl (k := 2) rfl (nI_1 k) (by decide) rfl (fun ls hl => ?_)
        refine lv_goto (tgt := 208) hx hb dL_law_256 (by decide) ?_
        exact ih (k + 1) q (nI d) (by omega) (by rw [fa, if_neg hR0]; exact hq) ls (lv_sub hl [1, 2, 0, 3, 4, 5, 6, 7, 8, 9, 10] rfl)
  refine lv_iload hx hb dL_law_193 (lv_at hl 0 rfl) ?_
  refine lv_aload_n hx hb dL_law_195 rfl (lv_at hl 7 rfl) ?_
  refine jr_callV (n := 0) (C := RX2) (As := []) (rest := [.int (nI r)]) S (c_X2_choices a0 aR aF aG cI vrow vdrawn vtr vled vmov vw1 vw2 veo veb vh1 vt1 vp1 vk1 vg1 vh2 vt2 vp2 vk2 vg2) gL_law_X2_choices rfl (by decide +kernel) rfl ⟨⟨rfl, rfl⟩, ⟨Nat.le_of_ble_eq_true rfl, Nat.le_of_ble_eq_true rfl⟩, Nat.le_of_ble_eq_true rfl, Nat.le_of_ble_eq_true rfl⟩ hP hK hN [0, 1, 2, 3] [0] rfl rfl 0 2 rfl rfl rfl (lv_nil hl) rfl (Nat.le_of_ble_eq_true rfl) dL_law_196 ?_
  rw [cch]
  refine lv_irem hx hb dL_law_199 hne0 ?_
  rw [erem]
  refine lv_istore (lv' := [(10, .int (nI q0)), (9, .int (nI r)), (8, .int (nI a)), (7, .int sp), (5, .int (nI dd)), (4, .int 1), (2, .int f), (3, .int g), (1, .ref a0), (0, .ref b)]) hx hb dL_law_200 hl (by decide) rfl (fun ls hl => ?_)
  refine lv_iconst (v := (-1)) hx hb dL_law_202 (by decide) ?_
  refine lv_istore (lv' := [(11, .int (-1)), (10, .int (nI q0)), (9, .int (nI r)), (8, .int (nI a)), (7, .int sp), (5, .int (nI dd)), (4, .int 1), (2, .int f), (3, .int g), (1, .ref a0), (0, .ref b)]) hx hb dL_law_203 hl (by decide) rfl (fun ls hl => ?_)
  refine lv_iconst (v := 0) hx hb dL_law_205 (by decide) ?_
  refine lv_istore (lv' := [(12, .int 0), (11, .int (-1)), (10, .int (nI q0)), (9, .int (nI r)), (8, .int (nI a)), (7, .int sp), (5, .int (nI dd)), (4, .int 1), (2, .int f), (3, .int g), (1, .ref a0), (0, .ref b)]) hx hb dL_law_206 hl (by decide) rfl (fun ls hl => ?_)
  exact lp (zl_nn up a) 0 q0 (-1) (by omega) rfl ls (lv_sub hl [2, 1, 0, 4, 5, 6, 7, 8, 9, 10, 11] rfl)
set_option maxRecDepth 100000 in
set_option maxHeartbeats 8000000 in
theorem pz_glove (X : pz_X l p s m c b L xs D A cI) (hdd : dd < 3) (hR : pq_R vrow vdrawn vtr vled vmov vw1 vw2 vh1 vt1 vp1 vk1 vg1 vh2 vt2 vp2 vk2 vg2 sp f g n up) (hab : a + a' = 1) (hm : vmov = nI a) (hP : va_P D vwCl (jC a0 aR aF aG cI vrow vdrawn vtr vled vmov vw1 vw2 veo veb vh1 vt1 vp1 vk1 vg1 vh2 vt2 vp2 vk2 vg2) H) (hD : va_D A (jC a0 aR aF aG cI vrow vdrawn vtr vled vmov vw1 vw2 veo veb vh1 vt1 vp1 vk1 vg1 vh2 vt2 vp2 vk2 vg2)) (hS : va_S A s.heap H locs) (hl : lv_has ls 19 [(7, .int sp), (5, .int (nI dd)), (4, .int 1), (2, .int f), (3, .int g), (1, .ref a0), (0, .ref b)])
    (kk : ∀ (r : Nat) (w1 w2 : Int32) (H1 : Heap) (locs1 : List Loc) (ls1 : Array Slot), r < 60 → pq_R vrow vdrawn vtr vled vmov vw1 vw2 vh1 vt1 vp1 vk1 w1 vh2 vt2 vp2 vk2 w2 sp f g n up → va_P D vwCl (jC a0 aR aF aG cI vrow vdrawn vtr vled vmov vw1 vw2 veo veb vh1 vt1 vp1 vk1 w1 vh2 vt2 vp2 vk2 w2) H1 → va_D A (jC a0 aR aF aG cI vrow vdrawn vtr vled vmov vw1 vw2 veo veb vh1 vt1 vp1 vk1 w1 vh2 vt2 vp2 vk2 w2) → va_S A s.heap H1 locs1 → lv_has ls1 19 [(9, .int (nI r)), (8, .int (nI a)), (7, .int sp), (5, .int (nI dd)), (4, .int 1), (2, .int f), (3, .int g), (1, .ref a0), (0, .ref b)] → W p l e room_1 s m #[Value.ref b] below meth c H1 locs1 190 1523 Q (F0 m 193 ls1 [])) : W p l e room_1 s m #[Value.ref b] below meth c H locs 190 1523 Q (F0 m 114 ls []) := by
  obtain ⟨S, hN, hXs, hbl, hbA, hA, hK, hL260⟩ := id X
  obtain ⟨hx, hb, hml, hown, hts⟩ := id S
  obtain ⟨E, hV⟩ := pq_view hR
  obtain ⟨hpl, lo, ⟨g1, g2⟩, htr, ⟨n06, n16⟩, ⟨hE, hdr, hn2⟩, ⟨k0, k1, hk0, hk1, hk⟩, _, hmv⟩ := id hV
  have part : zl_nn up 0 + zl_nn up 1 + zl_nn up 2 + zl_nn up 3 + zl_nn up 4 + zl_nn up 5 = 42 := pq_part (fun c hc => (hpl c hc).2)
  have ha : a < 2 := by omega
  have hAa := pz_arch ha
  have hA0 : ¬ j_X2_isArchivist 0 = 0 := by decide
  have hT : j_X2_turn vmov = nI a := hm
  have eA : j_X2_cards vh1 vh2 (nI a) = nI (zl_nn up a) := pq_ca ha g1 g2
  have hna : zl_nn up a ≤ 6 := by
    have : a = 0 ∨ a = 1 := by omega
    rcases this with e | e
    · subst e; exact n06
    · subst e; exact n16
  have hpile : j_X2_pile vdrawn = nI (30 - 2 * E) := by
    rw [hdr]
    show nI 42 - nI (12 + 2 * E) = _
    rw [pk_sub (by omega)]
    congr 1
    omega
  obtain ⟨K, hK31, eK⟩ : ∃ K : Nat, K < 2 ^ 31 ∧ (((nI dd) + (j_X2_tricks vk1 vk2 0)) + (2 * (nI (zl_nn up a)))) + (j_X2_pile vdrawn) = nI K := by
    refine ⟨dd + k0 + 2 * zl_nn up a + (30 - 2 * E), by omega, ?_⟩
    rw [hpile, show j_X2_tricks vk1 vk2 0 = nI k0 from hk0, show (2 : Int32) = nI 2 from rfl, pk_mul, nI_add, nI_add, nI_add]
  have h00 : ¬ vmov = (-1) := by rw [hm]; exact zs_nm1 a (by omega)
  refine lv_aload_n hx hb dL_law_114 rfl (lv_at hl 5 rfl) ?_
  refine jr_callV (n := 0) (C := RX2) (As := []) (rest := []) S (c_X2_turn a0 aR aF aG cI vrow vdrawn vtr vled vmov vw1 vw2 veo veb vh1 vt1 vp1 vk1 vg1 vh2 vt2 vp2 vk2 vg2) gL_law_X2_turn rfl (by decide +kernel) rfl ⟨⟨rfl, rfl⟩, ⟨Nat.le_of_ble_eq_true rfl, Nat.le_of_ble_eq_true rfl⟩, Nat.le_of_ble_eq_true rfl, Nat.le_of_ble_eq_true rfl⟩ hP hK hN [0, 1, 2, 3] [0] rfl rfl 0 2 rfl rfl rfl (lv_nil hl) rfl (Nat.le_of_ble_eq_true rfl) dL_law_115 ?_
  rw [hT]
  refine lv_istore (lv' := [(8, .int (nI a)), (7, .int sp), (5, .int (nI dd)), (4, .int 1), (2, .int f), (3, .int g), (1, .ref a0), (0, .ref b)]) hx hb dL_law_118 hl (by decide) rfl (fun ls hl => ?_)
  refine lv_aload_n hx hb dL_law_120 rfl (lv_at hl 7 rfl) ?_
  refine lv_iload hx hb dL_law_121 (lv_at hl 2 rfl) ?_
  refine lv_aload_n hx hb dL_law_123 rfl (lv_at hl 6 rfl) ?_
  refine lv_iconst (v := 0) hx hb dL_law_124 (by decide) ?_
  refine jr_callV (n := 1) (C := RX2) (As := [.int 0]) (rest := [.int (nI dd), .ref b]) S (c_X2_tricks a0 aR aF aG cI vrow vdrawn vtr vled vmov vw1 vw2 veo veb vh1 vt1 vp1 vk1 vg1 vh2 vt2 vp2 vk2 vg2 0 hA0) gL_law_X2_tricks rfl (by decide +kernel) rfl ⟨⟨rfl, rfl⟩, ⟨Nat.le_of_ble_eq_true rfl, Nat.le_of_ble_eq_true rfl⟩, Nat.le_of_ble_eq_true rfl, Nat.le_of_ble_eq_true rfl⟩ hP hK hN [0, 1, 2, 3] [0] rfl rfl 0 2 rfl rfl rfl (lv_nil hl) rfl (Nat.le_of_ble_eq_true rfl) dL_law_125 ?_
  refine lv_iadd hx hb dL_law_128 ?_
  refine lv_iconst (v := 2) hx hb dL_law_129 (by decide) ?_
  refine lv_aload_n hx hb dL_law_130 rfl (lv_at hl 6 rfl) ?_
  refine lv_iload hx hb dL_law_131 (lv_at hl 0 rfl) ?_
  refine jr_callV (n := 1) (C := RX2) (As := [.int (nI a)]) (rest := [.int 2, .int ((nI dd) + (j_X2_tricks vk1 vk2 0)), .ref b]) S (c_X2_cards a0 aR aF aG cI vrow vdrawn vtr vled vmov vw1 vw2 veo veb vh1 vt1 vp1 vk1 vg1 vh2 vt2 vp2 vk2 vg2 (nI a) hAa) gL_law_X2_cards rfl (by decide +kernel) rfl ⟨⟨rfl, rfl⟩, ⟨Nat.le_of_ble_eq_true rfl, Nat.le_of_ble_eq_true rfl⟩, Nat.le_of_ble_eq_true rfl, Nat.le_of_ble_eq_true rfl⟩ hP hK hN [0, 1, 2, 3] [0] rfl rfl 0 2 rfl rfl rfl (lv_nil hl) rfl (Nat.le_of_ble_eq_true rfl) dL_law_133 ?_
  rw [eA]
  refine lv_imul hx hb dL_law_136 ?_
  refine lv_iadd hx hb dL_law_137 ?_
  refine lv_aload_n hx hb dL_law_138 rfl (lv_at hl 6 rfl) ?_
  refine jr_callV (n := 0) (C := RX2) (As := []) (rest := [.int (((nI dd) + (j_X2_tricks vk1 vk2 0)) + (2 * (nI (zl_nn up a)))), .ref b]) S (c_X2_pile a0 aR aF aG cI vrow vdrawn vtr vled vmov vw1 vw2 veo veb vh1 vt1 vp1 vk1 vg1 vh2 vt2 vp2 vk2 vg2) gL_law_X2_pile rfl (by decide +kernel) rfl ⟨⟨rfl, rfl⟩, ⟨Nat.le_of_ble_eq_true rfl, Nat.le_of_ble_eq_true rfl⟩, Nat.le_of_ble_eq_true rfl, Nat.le_of_ble_eq_true rfl⟩ hP hK hN [0, 1, 2, 3] [0] rfl rfl 0 2 rfl rfl rfl (lv_nil hl) rfl (Nat.le_of_ble_eq_true rfl) dL_law_139 ?_
  refine lv_iadd hx hb dL_law_142 ?_
  rw [eK]
  refine lv_bipush (v := nI 60) hx hb dL_law_143 (by decide) ?_
  refine pd_call (k := K) (n := 60) (rest := []) S gL_law_L_drawn (by omega) hK31 (by decide) (by decide) ⟨Nat.le_of_ble_eq_true rfl, Nat.le_of_ble_eq_true rfl, Nat.le_of_ble_eq_true rfl, Nat.le_of_ble_eq_true rfl⟩ hXs hbl hbA hS (lv_nil hl) (Nat.le_of_ble_eq_true rfl) dL_law_145 (fun r hr => ?_)
  refine lv_istore (lv' := [(9, .int (nI r)), (8, .int (nI a)), (7, .int sp), (5, .int (nI dd)), (4, .int 1), (2, .int f), (3, .int g), (1, .ref a0), (0, .ref b)]) hx hb dL_law_148 hl (by decide) rfl (fun ls hl => ?_)
  refine lv_iload hx hb dL_law_150 (lv_at hl 0 rfl) ?_
  refine lv_bipush (v := 13) hx hb dL_law_152 (by decide) ?_
  refine lv_irem hx hb dL_law_154 (by decide) ?_
  refine lv_if_ne (tgt := 193) hx hb dL_law_155 (by decide) (fun c_1 => ?_) (fun c_1 => ?_)
  · skip
    exact kk r vg1 vg2 H locs ls hr hR hP hD hS (lv_sub hl [0, 1, 2, 3, 4, 5, 6, 7, 8] rfl)
  · skip
    refine lv_aload_n hx hb dL_law_158 rfl (lv_at hl 7 rfl) ?_
    refine lv_iload hx hb dL_law_159 (lv_at hl 1 rfl) ?_
    refine jr_callV (n := 1) (C := RX2) (As := [.int (nI a)]) (rest := []) S (c_X2_gloves a0 aR aF aG cI vrow vdrawn vtr vled vmov vw1 vw2 veo veb vh1 vt1 vp1 vk1 vg1 vh2 vt2 vp2 vk2 vg2 (nI a) hAa) gL_law_X2_gloves rfl (by decide +kernel) rfl ⟨⟨rfl, rfl⟩, ⟨Nat.le_of_ble_eq_true rfl, Nat.le_of_ble_eq_true rfl⟩, Nat.le_of_ble_eq_true rfl, Nat.le_of_ble_eq_true rfl⟩ hP hK hN [0, 1, 2, 3] [0] rfl rfl 0 2 rfl rfl rfl (lv_nil hl) rfl (Nat.le_of_ble_eq_true rfl) dL_law_161 ?_
    refine lv_if_ne (tgt := 193) hx hb dL_law_164 (by decide) (fun c_2 => ?_) (fun c_2 => ?_)
    · skip
      exact kk r vg1 vg2 H locs ls hr hR hP hD hS (lv_sub hl [0, 1, 2, 3, 4, 5, 6, 7, 8] rfl)
    · skip
      have ha01 : a = 0 ∨ a = 1 := by omega
      rcases ha01 with e01 | e01
      · skip
        have h11 : vmov = 0 := by rw [hm, e01]; decide
        have h22 : vg1 = 0 := by
          have := c_2
          rw [e01, j_X2_gloves, if_pos (show nI 0 = 0 by decide)] at this
          exact this
        have c11 : j_X2_putOnGloves_F vmov = nI a := hm
        have c12 : j_X2_gloves j_X2_putOnGloves_F_vg1 vg2 (nI a) = 1 := by
          rw [e01, j_X2_gloves, if_pos (show nI 0 = 0 by decide)]; rfl
        refine lv_aload_n hx hb dL_law_167 rfl (lv_at hl 7 rfl) ?_
        refine jw_callVi (n := 0) (C := RX2) (As := []) (rest := []) (wr := []) (wn := [(a0, .inr (2, [.ref aR, .ref aF, .ref aG, .int vdrawn, .int vtr, .int vled, .int vmov, .int vw1, .int vw2, va_rf veo, .int veb])), (aF, .inr (0, [.long vh1, .long vt1, .int vp1, .int vk1, .int j_X2_putOnGloves_F_vg1])), (aG, .inr (0, [.long vh2, .long vt2, .int vp2, .int vk2, .int vg2])), (aR, .inl (cI, 42, .inl vrow))]) S (c_X2_putOnGloves_F a0 aR aF aG cI vrow vdrawn vtr vled vmov vw1 vw2 veo veb vh1 vt1 vp1 vk1 vg1 vh2 vt2 vp2 vk2 vg2 h00 h11 h22) gL_law_X2_putOnGloves rfl (by decide +kernel) rfl ⟨⟨rfl, rfl⟩, ⟨Nat.le_of_ble_eq_true rfl, Nat.le_of_ble_eq_true rfl⟩, Nat.le_of_ble_eq_true rfl, Nat.le_of_ble_eq_true rfl⟩ hP hK hN hD hS hA [0, 1, 2, 3] [] [0, 1, 2, 3] [0] rfl rfl ⟨rfl, rfl, rfl⟩ (by decide) rfl rfl 0 2 rfl rfl rfl (lv_nil hl) rfl (Nat.le_of_ble_eq_true rfl) dL_law_168 (fun H locs hP hD hS => ?_)
        refine lv_iload hx hb dL_law_171 (lv_at hl 1 rfl) ?_
        refine lv_icmp_ne (tgt := 190) hx hb dL_law_173 (by decide) (fun c_ => absurd c11 c_) (fun _ => ?_)
        refine lv_aload_n hx hb dL_law_176 rfl (lv_at hl 7 rfl) ?_
        refine lv_iload hx hb dL_law_177 (lv_at hl 1 rfl) ?_
        refine jr_callV (n := 1) (C := RX2) (As := [.int (nI a)]) (rest := []) S (c_X2_gloves a0 aR aF aG cI vrow vdrawn vtr vled vmov vw1 vw2 veo veb vh1 vt1 vp1 vk1 j_X2_putOnGloves_F_vg1 vh2 vt2 vp2 vk2 vg2 (nI a) hAa) gL_law_X2_gloves rfl (by decide +kernel) rfl ⟨⟨rfl, rfl⟩, ⟨Nat.le_of_ble_eq_true rfl, Nat.le_of_ble_eq_true rfl⟩, Nat.le_of_ble_eq_true rfl, Nat.le_of_ble_eq_true rfl⟩ hP hK hN [0, 1, 2, 3] [0] rfl rfl 0 2 rfl rfl rfl (lv_nil hl) rfl (Nat.le_of_ble_eq_true rfl) dL_law_179 ?_
        refine lv_iconst (v := 1) hx hb dL_law_182 (by decide) ?_
        refine lv_icmp_ne (tgt := 190) hx hb dL_law_183 (by decide) (fun c_ => absurd c12 c_) (fun _ => ?_)
        refine lv_iconst (v := 1) hx hb dL_law_186 (by decide) ?_
        refine lv_goto (tgt := 191) hx hb dL_law_187 (by decide) ?_
        refine lv_istore (lv' := [(4, .int 1), (9, .int (nI r)), (8, .int (nI a)), (7, .int sp), (5, .int (nI dd)), (2, .int f), (3, .int g), (1, .ref a0), (0, .ref b)]) hx hb dL_law_191 hl (by decide) rfl (fun ls hl => ?_)
        exact kk r j_X2_putOnGloves_F_vg1 vg2 H locs ls hr (pq_gloveF hR h00 h11 h22) hP hD hS (lv_sub hl [1, 2, 3, 4, 0, 5, 6, 7, 8] rfl)
      · skip
        have h11 : ¬ vmov = 0 := by rw [hm, e01]; decide
        have h22 : vg2 = 0 := by
          have := c_2
          rw [e01, j_X2_gloves, if_neg (show ¬ nI 1 = 0 by decide)] at this
          exact this
        have c11 : j_X2_putOnGloves_G vmov = nI a := hm
        have c12 : j_X2_gloves vg1 j_X2_putOnGloves_G_vg2 (nI a) = 1 := by
          rw [e01, j_X2_gloves, if_neg (show ¬ nI 1 = 0 by decide)]; rfl
        refine lv_aload_n hx hb dL_law_167 rfl (lv_at hl 7 rfl) ?_
        refine jw_callVi (n := 0) (C := RX2) (As := []) (rest := []) (wr := []) (wn := [(a0, .inr (2, [.ref aR, .ref aF, .ref aG, .int vdrawn, .int vtr, .int vled, .int vmov, .int vw1, .int vw2, va_rf veo, .int veb])), (aF, .inr (0, [.long vh1, .long vt1, .int vp1, .int vk1, .int vg1])), (aG, .inr (0, [.long vh2, .long vt2, .int vp2, .int vk2, .int j_X2_putOnGloves_G_vg2])), (aR, .inl (cI, 42, .inl vrow))]) S (c_X2_putOnGloves_G a0 aR aF aG cI vrow vdrawn vtr vled vmov vw1 vw2 veo veb vh1 vt1 vp1 vk1 vg1 vh2 vt2 vp2 vk2 vg2 h00 h11 h22) gL_law_X2_putOnGloves rfl (by decide +kernel) rfl ⟨⟨rfl, rfl⟩, ⟨Nat.le_of_ble_eq_true rfl, Nat.le_of_ble_eq_true rfl⟩, Nat.le_of_ble_eq_true rfl, Nat.le_of_ble_eq_true rfl⟩ hP hK hN hD hS hA [0, 1, 2, 3] [] [0, 1, 2, 3] [0] rfl rfl ⟨rfl, rfl, rfl⟩ (by decide) rfl rfl 0 2 rfl rfl rfl (lv_nil hl) rfl (Nat.le_of_ble_eq_true rfl) dL_law_168 (fun H locs hP hD hS => ?_)
        refine lv_iload hx hb dL_law_171 (lv_at hl 1 rfl) ?_
        refine lv_icmp_ne (tgt := 190) hx hb dL_law_173 (by decide) (fun c_ => absurd c11 c_) (fun _ => ?_)
        refine lv_aload_n hx hb dL_law_176 rfl (lv_at hl 7 rfl) ?_
        refine lv_iload hx hb dL_law_177 (lv_at hl 1 rfl) ?_
        refine jr_callV (n := 1) (C := RX2) (As := [.int (nI a)]) (rest := []) S (c_X2_gloves a0 aR aF aG cI vrow vdrawn vtr vled vmov vw1 vw2 veo veb vh1 vt1 vp1 vk1 vg1 vh2 vt2 vp2 vk2 j_X2_putOnGloves_G_vg2 (nI a) hAa) gL_law_X2_gloves rfl (by decide +kernel) rfl ⟨⟨rfl, rfl⟩, ⟨Nat.le_of_ble_eq_true rfl, Nat.le_of_ble_eq_true rfl⟩, Nat.le_of_ble_eq_true rfl, Nat.le_of_ble_eq_true rfl⟩ hP hK hN [0, 1, 2, 3] [0] rfl rfl 0 2 rfl rfl rfl (lv_nil hl) rfl (Nat.le_of_ble_eq_true rfl) dL_law_179 ?_
        refine lv_iconst (v := 1) hx hb dL_law_182 (by decide) ?_
        refine lv_icmp_ne (tgt := 190) hx hb dL_law_183 (by decide) (fun c_ => absurd c12 c_) (fun _ => ?_)
        refine lv_iconst (v := 1) hx hb dL_law_186 (by decide) ?_
        refine lv_goto (tgt := 191) hx hb dL_law_187 (by decide) ?_
        refine lv_istore (lv' := [(4, .int 1), (9, .int (nI r)), (8, .int (nI a)), (7, .int sp), (5, .int (nI dd)), (2, .int f), (3, .int g), (1, .ref a0), (0, .ref b)]) hx hb dL_law_191 hl (by decide) rfl (fun ls hl => ?_)
        exact kk r vg1 j_X2_putOnGloves_G_vg2 H locs ls hr (pq_gloveG hR h00 h11 h22) hP hD hS (lv_sub hl [1, 2, 3, 4, 0, 5, 6, 7, 8] rfl)
end PZ
