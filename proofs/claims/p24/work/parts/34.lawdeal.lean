/-! P24: A DEAL in the law (laid by wip/p24/lawmain.py) -/
section PZ
variable {p : Program} {l : Launch} {e : Env} {s : State} {m : MethodId} {below : List Frame} {meth : Method} {c : Code} {H : Heap} {locs : List Loc} {Q : State → Prop} {ls : Array Slot}
variable {b L : Nat} {xs : Nat → Int32} {D : va_G} {A : Nat → Prop} {cI : ClassId} {a0 aR aF aG : Nat}
variable {vrow : Nat → Int32} {vdrawn vtr vled vmov vw1 vw2 : Int32} {veo : Option Nat} {veb : Int32} {vh1 vt1 : Int64} {vp1 vk1 vg1 : Int32} {vh2 vt2 : Int64} {vp2 vk2 vg2 : Int32} {sp f g : Int32} {n dd a a' : Nat} {up : Nat → Int32}
set_option maxRecDepth 100000 in
set_option maxHeartbeats 8000000 in
theorem pz_deal (X : pz_X l p s m c b L xs D A cI) (hdd : dd < 3) {up0 ur us ut ug uw uh : Nat → Int32} {udrawn udealt uon uturn uled utr : Int32} (hR : zr_R vrow vdrawn vtr vled vmov vw1 vw2 vh1 vt1 vp1 vk1 vg1 vh2 vt2 vp2 vk2 vg2 up0 ur us ut ug uw uh udrawn udealt uon uturn uled utr) (hP : va_P D vwCl (jC a0 aR aF aG cI vrow vdrawn vtr vled vmov vw1 vw2 veo veb vh1 vt1 vp1 vk1 vg1 vh2 vt2 vp2 vk2 vg2) H) (hD : va_D A (jC a0 aR aF aG cI vrow vdrawn vtr vled vmov vw1 vw2 veo veb vh1 vt1 vp1 vk1 vg1 vh2 vt2 vp2 vk2 vg2)) (hS : va_S A s.heap H locs) (hl : lv_has ls 19 [(5, .int (nI dd)), (4, .int 1), (2, .int vw1), (3, .int vw2), (1, .ref a0), (0, .ref b)])
    (kk : ∀ (y_vrow : Nat → Int32) (y_vdrawn y_vtr y_vled y_vmov y_vw1 y_vw2 : Int32) (y_veo : Option Nat) (y_veb : Int32) (y_vh1 y_vt1 : Int64) (y_vp1 y_vk1 y_vg1 : Int32) (y_vh2 y_vt2 : Int64) (y_vp2 y_vk2 y_vg2 : Int32) (up' : Nat → Int32) (H1 : Heap) (locs1 : List Loc) (ls1 : Array Slot), pq_R y_vrow y_vdrawn y_vtr y_vled y_vmov y_vw1 y_vw2 y_vh1 y_vt1 y_vp1 y_vk1 y_vg1 y_vh2 y_vt2 y_vp2 y_vk2 y_vg2 0 vw1 vw2 42 up' → va_P D vwCl (jC a0 aR aF aG cI y_vrow y_vdrawn y_vtr y_vled y_vmov y_vw1 y_vw2 y_veo y_veb y_vh1 y_vt1 y_vp1 y_vk1 y_vg1 y_vh2 y_vt2 y_vp2 y_vk2 y_vg2) H1 → va_D A (jC a0 aR aF aG cI y_vrow y_vdrawn y_vtr y_vled y_vmov y_vw1 y_vw2 y_veo y_veb y_vh1 y_vt1 y_vp1 y_vk1 y_vg1 y_vh2 y_vt2 y_vp2 y_vk2 y_vg2) → va_S A s.heap H1 locs1 → lv_has ls1 19 [(7, .int 0), (5, .int (nI dd)), (4, .int 1), (2, .int vw1), (3, .int vw2), (1, .ref a0), (0, .ref b)] → W p l e room_1 s m #[Value.ref b] below meth c H1 locs1 190 1523 Q (F0 m 102 ls1 [])) : W p l e room_1 s m #[Value.ref b] below meth c H locs 190 1523 Q (F0 m 18 ls []) := by
  obtain ⟨S, hN, hXs, hbl, hbA, hA, hK, hL260⟩ := id X
  obtain ⟨hx, hb, hml, hown, hts⟩ := id S
  have cd : ¬ (3 : Int32) ≤ nI dd := nI_ge (a := dd) (b := 3) hdd (by decide)
  refine lv_iload hx hb dL_law_18 (lv_at hl 0 rfl) ?_
  refine lv_iconst (v := 3) hx hb dL_law_20 (by decide) ?_
  refine lv_icmp_ge (tgt := 761) hx hb dL_law_21 (by decide) (fun c_ => absurd c_ cd) (fun _ => ?_)
  refine lv_iload hx hb dL_law_24 (lv_at hl 1 rfl) ?_
  refine lv_if_eq (tgt := 761) hx hb dL_law_26 (by decide) (fun c_ => absurd c_ (by decide)) (fun _ => ?_)
  refine lv_aload_n hx hb dL_law_29 rfl (lv_at hl 4 rfl) ?_
  refine lv_aload_n hx hb dL_law_30 rfl (lv_at hl 5 rfl) ?_
  refine lv_iload hx hb dL_law_31 (lv_at hl 0 rfl) ?_
  refine lv_ldc (v := 1073741824) hx hb hown (hts (.constant RL 49 (1073741824)) (List.mem_of_getElem? (i := 3) (by decide +kernel))) dL_law_33 ?_
  rw [pd_big]
  refine pd_call (k := dd) (n := 1073741824) (rest := [.ref a0]) S gL_law_L_drawn (by omega) (by omega) (Nat.le_of_ble_eq_true rfl) (Nat.le_of_ble_eq_true rfl) ⟨Nat.le_of_ble_eq_true rfl, Nat.le_of_ble_eq_true rfl, Nat.le_of_ble_eq_true rfl, Nat.le_of_ble_eq_true rfl⟩ hXs hbl hbA hS (lv_nil hl) (Nat.le_of_ble_eq_true rfl) dL_law_35 (fun r hr => ?_)
  refine lv_i2l (v := (nI r).toInt64) hx hb dL_law_38 rfl ?_
  refine lv_ldc2 (v := 1048583) hx hb hown (hts (.constantLong RL 54 (1048583)) (List.mem_of_getElem? (i := 4) (by decide +kernel))) dL_law_39 ?_
  refine lv_lmul hx hb dL_law_42 ?_
  generalize hsd : ((nI r).toInt64) * 1048583 = sd
  obtain ⟨up', hR'⟩ := pq_deal hR sd
  obtain ⟨E', hV'⟩ := pq_view hR'
  obtain ⟨t, ht, et⟩ := hV'.2.2.2.1
  have e0 : j_X2_deal vrow sd = j_X2_deal_vtr vrow sd := by rw [j_X2_deal, j_X2_deal_vtr]
  have et : j_X2_deal vrow sd = nI t := e0.trans et
  have c1 : ¬ j_X2_deal vrow sd < 0 := by rw [et]; exact nI_pos (show t < 2 ^ 31 by omega)
  have c2 : ¬ 4 ≤ j_X2_deal vrow sd := by rw [et]; exact nI_ge (a := t) (b := 4) ht (by decide)
  have c3 : j_X2_trumps (j_X2_deal_vtr vrow sd) = j_X2_deal vrow sd := (pz_tr _).trans e0.symm
  have c4 : j_X2_pile j_X2_deal_vdrawn = 30 := by decide
  have c5 : j_X2_turn j_X2_deal_vmov = 0 := rfl
  refine jw_callVi (n := 1) (C := RX2) (As := [.long sd]) (rest := []) (wr := []) (wn := [(a0, .inr (2, [.ref aR, .ref aF, .ref aG, .int j_X2_deal_vdrawn, .int (j_X2_deal_vtr vrow sd), .int j_X2_deal_vled, .int j_X2_deal_vmov, .int vw1, .int vw2, va_rf veo, .int j_X2_deal_veb])), (aF, .inr (0, [.long (j_X2_deal_vh1 vrow sd), .long j_X2_deal_vt1, .int j_X2_deal_vp1, .int j_X2_deal_vk1, .int j_X2_deal_vg1])), (aG, .inr (0, [.long (j_X2_deal_vh2 vrow sd), .long j_X2_deal_vt2, .int j_X2_deal_vp2, .int j_X2_deal_vk2, .int j_X2_deal_vg2])), (aR, .inl (cI, 42, .inl (j_X2_deal_vrow vrow sd)))]) S (c_X2_deal a0 aR aF aG cI vrow vdrawn vtr vled vmov vw1 vw2 veo veb vh1 vt1 vp1 vk1 vg1 vh2 vt2 vp2 vk2 vg2 sd) gL_law_X2_deal rfl (by decide +kernel) rfl ⟨⟨rfl, rfl⟩, ⟨Nat.le_of_ble_eq_true rfl, Nat.le_of_ble_eq_true rfl⟩, Nat.le_of_ble_eq_true rfl, Nat.le_of_ble_eq_true rfl⟩ hP hK hN hD hS hA [0, 1, 2, 3] [] [0, 1, 2, 3] [0] rfl rfl ⟨rfl, rfl, rfl⟩ (by decide) rfl rfl 0 2 rfl rfl rfl (lv_nil hl) rfl (Nat.le_of_ble_eq_true rfl) dL_law_43 (fun H locs hP hD hS => ?_)
  refine lv_istore (lv' := [(6, .int (j_X2_deal vrow sd)), (5, .int (nI dd)), (4, .int 1), (2, .int vw1), (3, .int vw2), (1, .ref a0), (0, .ref b)]) hx hb dL_law_46 hl (by decide) rfl (fun ls hl => ?_)
  refine lv_iconst (v := 0) hx hb dL_law_48 (by decide) ?_
  refine lv_istore (lv' := [(7, .int 0), (6, .int (j_X2_deal vrow sd)), (5, .int (nI dd)), (4, .int 1), (2, .int vw1), (3, .int vw2), (1, .ref a0), (0, .ref b)]) hx hb dL_law_49 hl (by decide) rfl (fun ls hl => ?_)
  refine lv_iload hx hb dL_law_51 (lv_at hl 1 rfl) ?_
  refine lv_if_lt (tgt := 99) hx hb dL_law_53 (by decide) (fun c_ => absurd c_ c1) (fun _ => ?_)
  refine lv_iload hx hb dL_law_56 (lv_at hl 1 rfl) ?_
  refine lv_iconst (v := 4) hx hb dL_law_58 (by decide) ?_
  refine lv_icmp_ge (tgt := 99) hx hb dL_law_59 (by decide) (fun c_ => absurd c_ c2) (fun _ => ?_)
  refine lv_aload_n hx hb dL_law_62 rfl (lv_at hl 6 rfl) ?_
  refine jr_callV (n := 0) (C := RX2) (As := []) (rest := []) S (c_X2_trumps a0 aR aF aG cI (j_X2_deal_vrow vrow sd) j_X2_deal_vdrawn (j_X2_deal_vtr vrow sd) j_X2_deal_vled j_X2_deal_vmov vw1 vw2 veo j_X2_deal_veb (j_X2_deal_vh1 vrow sd) j_X2_deal_vt1 j_X2_deal_vp1 j_X2_deal_vk1 j_X2_deal_vg1 (j_X2_deal_vh2 vrow sd) j_X2_deal_vt2 j_X2_deal_vp2 j_X2_deal_vk2 j_X2_deal_vg2) gL_law_X2_trumps rfl (by decide +kernel) rfl ⟨⟨rfl, rfl⟩, ⟨Nat.le_of_ble_eq_true rfl, Nat.le_of_ble_eq_true rfl⟩, Nat.le_of_ble_eq_true rfl, Nat.le_of_ble_eq_true rfl⟩ hP hK hN [0, 1, 2, 3] [0] rfl rfl 0 2 rfl rfl rfl (lv_nil hl) rfl (Nat.le_of_ble_eq_true rfl) dL_law_63 ?_
  refine lv_iload hx hb dL_law_66 (lv_at hl 1 rfl) ?_
  refine lv_icmp_ne (tgt := 99) hx hb dL_law_68 (by decide) (fun c_ => absurd c3 c_) (fun _ => ?_)
  refine lv_aload_n hx hb dL_law_71 rfl (lv_at hl 6 rfl) ?_
  refine jr_callV (n := 0) (C := RX2) (As := []) (rest := []) S (c_X2_pile a0 aR aF aG cI (j_X2_deal_vrow vrow sd) j_X2_deal_vdrawn (j_X2_deal_vtr vrow sd) j_X2_deal_vled j_X2_deal_vmov vw1 vw2 veo j_X2_deal_veb (j_X2_deal_vh1 vrow sd) j_X2_deal_vt1 j_X2_deal_vp1 j_X2_deal_vk1 j_X2_deal_vg1 (j_X2_deal_vh2 vrow sd) j_X2_deal_vt2 j_X2_deal_vp2 j_X2_deal_vk2 j_X2_deal_vg2) gL_law_X2_pile rfl (by decide +kernel) rfl ⟨⟨rfl, rfl⟩, ⟨Nat.le_of_ble_eq_true rfl, Nat.le_of_ble_eq_true rfl⟩, Nat.le_of_ble_eq_true rfl, Nat.le_of_ble_eq_true rfl⟩ hP hK hN [0, 1, 2, 3] [0] rfl rfl 0 2 rfl rfl rfl (lv_nil hl) rfl (Nat.le_of_ble_eq_true rfl) dL_law_72 ?_
  refine lv_bipush (v := 30) hx hb dL_law_75 (by decide) ?_
  refine lv_icmp_ne (tgt := 99) hx hb dL_law_77 (by decide) (fun c_ => absurd c4 c_) (fun _ => ?_)
  refine lv_aload_n hx hb dL_law_80 rfl (lv_at hl 6 rfl) ?_
  refine jr_callV (n := 0) (C := RX2) (As := []) (rest := []) S (c_X2_turn a0 aR aF aG cI (j_X2_deal_vrow vrow sd) j_X2_deal_vdrawn (j_X2_deal_vtr vrow sd) j_X2_deal_vled j_X2_deal_vmov vw1 vw2 veo j_X2_deal_veb (j_X2_deal_vh1 vrow sd) j_X2_deal_vt1 j_X2_deal_vp1 j_X2_deal_vk1 j_X2_deal_vg1 (j_X2_deal_vh2 vrow sd) j_X2_deal_vt2 j_X2_deal_vp2 j_X2_deal_vk2 j_X2_deal_vg2) gL_law_X2_turn rfl (by decide +kernel) rfl ⟨⟨rfl, rfl⟩, ⟨Nat.le_of_ble_eq_true rfl, Nat.le_of_ble_eq_true rfl⟩, Nat.le_of_ble_eq_true rfl, Nat.le_of_ble_eq_true rfl⟩ hP hK hN [0, 1, 2, 3] [0] rfl rfl 0 2 rfl rfl rfl (lv_nil hl) rfl (Nat.le_of_ble_eq_true rfl) dL_law_81 ?_
  refine lv_if_ne (tgt := 99) hx hb dL_law_84 (by decide) (fun c_ => absurd c5 c_) (fun _ => ?_)
  refine lv_aload_n hx hb dL_law_87 rfl (lv_at hl 6 rfl) ?_
  refine lv_iconst (v := 0) hx hb dL_law_88 (by decide) ?_
  refine jr_callS (n := 2) (As := [.ref a0, .int 0]) (rest := []) S (c_L_isLaidRight a0 aR aF aG cI (j_X2_deal_vrow vrow sd) j_X2_deal_vdrawn (j_X2_deal_vtr vrow sd) j_X2_deal_vled j_X2_deal_vmov vw1 vw2 veo j_X2_deal_veb (j_X2_deal_vh1 vrow sd) j_X2_deal_vt1 j_X2_deal_vp1 j_X2_deal_vk1 j_X2_deal_vg1 (j_X2_deal_vh2 vrow sd) j_X2_deal_vt2 j_X2_deal_vp2 j_X2_deal_vk2 j_X2_deal_vg2 0 hV') gL_law_L_isLaidRight rfl (by decide +kernel) rfl ⟨⟨rfl, rfl⟩, ⟨Nat.le_of_ble_eq_true rfl, Nat.le_of_ble_eq_true rfl⟩, Nat.le_of_ble_eq_true rfl, Nat.le_of_ble_eq_true rfl⟩ hP hK hN [0, 1, 2, 3] [0] rfl rfl (lv_nil hl) rfl (Nat.le_of_ble_eq_true rfl) dL_law_89 ?_
  refine lv_if_eq (tgt := 99) hx hb dL_law_92 (by decide) (fun c_ => absurd c_ (by decide)) (fun _ => ?_)
  refine lv_iconst (v := 1) hx hb dL_law_95 (by decide) ?_
  refine lv_goto (tgt := 100) hx hb dL_law_96 (by decide) ?_
  refine lv_istore (lv' := [(4, .int 1), (7, .int 0), (6, .int (j_X2_deal vrow sd)), (5, .int (nI dd)), (2, .int vw1), (3, .int vw2), (1, .ref a0), (0, .ref b)]) hx hb dL_law_100 hl (by decide) rfl (fun ls hl => ?_)
  exact kk (j_X2_deal_vrow vrow sd) j_X2_deal_vdrawn (j_X2_deal_vtr vrow sd) j_X2_deal_vled j_X2_deal_vmov vw1 vw2 veo j_X2_deal_veb (j_X2_deal_vh1 vrow sd) j_X2_deal_vt1 j_X2_deal_vp1 j_X2_deal_vk1 j_X2_deal_vg1 (j_X2_deal_vh2 vrow sd) j_X2_deal_vt2 j_X2_deal_vp2 j_X2_deal_vk2 j_X2_deal_vg2 up' H locs ls hR' hP hD hS (lv_sub hl [1, 3, 0, 4, 5, 6, 7] rfl)
end PZ
