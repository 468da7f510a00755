/-! DEAL in the law (laid by wip/whole/deal.py) -/
section ZC
variable {p : Program} {l : Launch} {e : Env} {s : State} {m : MethodId} {below : List Frame} {meth : Method} {c : Code} {H : Heap} {locs : List Loc} {cells slots : Nat} {Q : State → Prop} {ls : Array Slot}
variable {b L : Nat} {xs : Nat → Int32} {D : va_G} {A : Nat → Prop} {i : Nat} {a0 aR aF aG : Nat} {cI : ClassId} {aO : Nat} {cL : ClassId} {b0 bP bR bS bT bG bW bH bO : Nat} {cP cR cS cT cG cW cH cO : ClassId}
theorem zy_c0 (X : zyX l p s m c b L xs D A cI cL cP cR cS cT cG cW cH cO) (hI : zyI D A s a0 aR aF aG cI aO cL b0 bP bR bS bT bG bW bH bO cP cR cS cT cG cW cH cO H) (hS : va_S A s.heap H locs) (hi : i + 2 < L) (hl : lv_has ls 7 [(4, .int (nI i)), (3, .ref aO), (2, .ref b0), (1, .ref a0), (0, .ref b)]) (hro : cells + 2 ≤ 601024 ∧ slots + 8196 ≤ 7293034)
    (kk : ∀ (H1 : Heap) (locs1 : List Loc) (ls1 : Array Slot), zyI D A s a0 aR aF aG cI aO cL b0 bP bR bS bT bG bW bH bO cP cR cS cT cG cW cH cO H1 → va_S A s.heap H1 locs1 → lv_has ls1 7 [(4, .int (nI i)), (3, .ref aO), (2, .ref b0), (1, .ref a0), (0, .ref b)] → W p l e room_1 s m #[Value.ref b] below meth c H1 locs1 (cells + 2) (slots + 8196) Q (F0 m 945 ls1 [])) : W p l e room_1 s m #[Value.ref b] below meth c H locs cells slots Q (F0 m 136 ls []) := by
  obtain ⟨vrow, vdrawn, vtr, vled, vmov, vw1, vw2, veo, veb, vh1, vt1, vp1, vk1, vg1, vh2, vt2, vp2, vk2, vg2, vout, uplace, urow, upts, utks, uglv, uwin, uheld, utab, udrawn, udealt, uon, uturn, uled, utr, uthr, we, hR, hE, hPc, hPm, hPe, hD⟩ := hI
  have hst := X.2.2.2.2.1
  have hKC := X.2.2.2.2.2.2.2.2.2.1
  obtain ⟨S, hN, hX, hY, -, hXs, hbl, hbA, hA, -, hKM, hLL⟩ := id X
  obtain ⟨hx, hb, hml, hown, hts⟩ := id S
  refine lv_aload_n hx hb dL_law_136 rfl (lv_at hl 3 rfl) ?_
  refine lv_aload_n hx hb dL_law_137 rfl (lv_at hl 4 rfl) ?_
  refine lv_iload hx hb dL_law_138 (lv_at hl 0 rfl) ?_
  refine lv_iconst (v := 1) hx hb dL_law_140 (by decide) ?_
  refine lv_iadd hx hb dL_law_141 ?_
  rw [show nI i + 1 = nI (i + 1) from nI_add i 1]
  refine va_sld hx hb hXs hbl hbA hS (i := nI (i + 1)) (vp_in_nI (by omega) (by omega)) dL_law_142 ?_
  rw [nI_clamp (show i + 1 < 2 ^ 31 by omega)]
  refine lv_i2l (v := (xs (i + 1)).toInt64) hx hb dL_law_143 rfl ?_
  refine lv_bipush (v := 32) hx hb dL_law_144 (by decide) ?_
  refine lv_lshl (v := (xs (i + 1)).toInt64 <<< ((32 : Int32).toInt64 &&& 63)) hx hb dL_law_146 rfl ?_
  refine lv_aload_n hx hb dL_law_147 rfl (lv_at hl 4 rfl) ?_
  refine lv_iload hx hb dL_law_148 (lv_at hl 0 rfl) ?_
  refine lv_iconst (v := 2) hx hb dL_law_150 (by decide) ?_
  refine lv_iadd hx hb dL_law_151 ?_
  rw [show nI i + 2 = nI (i + 2) from nI_add i 2]
  refine va_sld hx hb hXs hbl hbA hS (i := nI (i + 2)) (vp_in_nI (by omega) (by omega)) dL_law_152 ?_
  rw [nI_clamp (show i + 2 < 2 ^ 31 by omega)]
  refine lv_i2l (v := (xs (i + 2)).toInt64) hx hb dL_law_153 rfl ?_
  refine lv_ldc2 (v := 4294967295) hx hb hown (hts (.constantLong RL 58 (4294967295)) (List.mem_of_getElem? (i := 7) (by decide +kernel))) dL_law_154 ?_
  refine lv_land hx hb dL_law_157 ?_
  refine lv_lor hx hb dL_law_158 ?_
  generalize hsd : (((xs (i + 1)).toInt64 <<< ((32 : Int32).toInt64 &&& 63)) ||| ((xs (i + 2)).toInt64 &&& 4294967295)) = sd
  have hd2 := zp_deal hR sd
  have hDA : va_D A (jC a0 aR aF aG cI vrow vdrawn vtr vled vmov vw1 vw2 veo veb vh1 vt1 vp1 vk1 vg1 vh2 vt2 vp2 vk2 vg2 ++ ([(aO, .inl (cL, 1, .inr (.inl vout)))] ++ (jM b0 bP bR bS bT bG bW bH bO cP cR cS cT cG cW cH cO uplace urow upts utks uglv uwin uheld utab udrawn udealt uon uturn uled utr uthr ++ we))) := hD
  refine zy_callW (n := 1) (C := RX2) (As := [.long sd]) (rest := []) (wr := [(aO, .inl (cL, 1, .inr (.inl vout)))] ++ (jM b0 bP bR bS bT bG bW bH bO cP cR cS cT cG cW cH cO uplace urow upts utks uglv uwin uheld utab udrawn udealt uon uturn uled utr uthr ++ we)) S (c_X2_deal a0 aR aF aG cI vrow vdrawn vtr vled vmov vw1 vw2 veo veb vh1 vt1 vp1 vk1 vg1 vh2 vt2 vp2 vk2 vg2 sd) gL_law_X2_deal rfl (by decide +kernel) rfl ⟨⟨rfl, rfl⟩, ⟨Nat.le_of_ble_eq_true rfl, Nat.le_of_ble_eq_true rfl⟩, (by show cells ≤ 601024; omega), (by show slots ≤ 7293034; omega)⟩ (hPc.sub [0, 1, 2, 3] rfl) (zy_Pa.mpr ⟨hPc.sub [4] rfl, zy_Pa.mpr ⟨hPm, hPe⟩⟩) (hKC.sub [0] rfl) hN hDA hS hA 2 rfl rfl rfl hl.1 rfl (Nat.le_of_ble_eq_true rfl) dL_law_159 (fun H1 locs1 hPc1 hPr1 hD1 hS => ?_)
  obtain ⟨hPo1, hPr2⟩ := zy_Pa.mp hPr1
  obtain ⟨hPm1, hPe1⟩ := zy_Pa.mp hPr2
  have hP1 : va_P D vwCl (jCL a0 aR aF aG cI (j_X2_deal_vrow vrow sd) (j_X2_deal_vdrawn) (j_X2_deal_vtr vrow sd) (j_X2_deal_vled) (j_X2_deal_vmov) vw1 vw2 veo (j_X2_deal_veb) (j_X2_deal_vh1 vrow sd) (j_X2_deal_vt1) (j_X2_deal_vp1) (j_X2_deal_vk1) (j_X2_deal_vg1) (j_X2_deal_vh2 vrow sd) (j_X2_deal_vt2) (j_X2_deal_vp2) (j_X2_deal_vk2) (j_X2_deal_vg2) aO cL vout) H1 := zy_Pa.mpr ⟨hPc1, hPo1⟩
  have hD2 : va_D A (jCL a0 aR aF aG cI (j_X2_deal_vrow vrow sd) (j_X2_deal_vdrawn) (j_X2_deal_vtr vrow sd) (j_X2_deal_vled) (j_X2_deal_vmov) vw1 vw2 veo (j_X2_deal_veb) (j_X2_deal_vh1 vrow sd) (j_X2_deal_vt1) (j_X2_deal_vp1) (j_X2_deal_vk1) (j_X2_deal_vg1) (j_X2_deal_vh2 vrow sd) (j_X2_deal_vt2) (j_X2_deal_vp2) (j_X2_deal_vk2) (j_X2_deal_vg2) aO cL vout ++ (jM b0 bP bR bS bT bG bW bH bO cP cR cS cT cG cW cH cO uplace urow upts utks uglv uwin uheld utab udrawn udealt uon uturn uled utr uthr ++ we)) := hD1
  rw [hd2.2]
  refine lv_aload_n hx hb dL_law_162 rfl (lv_at hl 2 rfl) ?_
  refine lv_aload_n hx hb dL_law_163 rfl (lv_at hl 4 rfl) ?_
  refine lv_iload hx hb dL_law_164 (lv_at hl 0 rfl) ?_
  refine lv_iconst (v := 1) hx hb dL_law_166 (by decide) ?_
  refine lv_iadd hx hb dL_law_167 ?_
  rw [show nI i + 1 = nI (i + 1) from nI_add i 1]
  refine va_sld hx hb hXs hbl hbA hS (i := nI (i + 1)) (vp_in_nI (by omega) (by omega)) dL_law_168 ?_
  rw [nI_clamp (show i + 1 < 2 ^ 31 by omega)]
  refine lv_i2l (v := (xs (i + 1)).toInt64) hx hb dL_law_169 rfl ?_
  refine lv_bipush (v := 32) hx hb dL_law_170 (by decide) ?_
  refine lv_lshl (v := (xs (i + 1)).toInt64 <<< ((32 : Int32).toInt64 &&& 63)) hx hb dL_law_172 rfl ?_
  refine lv_aload_n hx hb dL_law_173 rfl (lv_at hl 4 rfl) ?_
  refine lv_iload hx hb dL_law_174 (lv_at hl 0 rfl) ?_
  refine lv_iconst (v := 2) hx hb dL_law_176 (by decide) ?_
  refine lv_iadd hx hb dL_law_177 ?_
  rw [show nI i + 2 = nI (i + 2) from nI_add i 2]
  refine va_sld hx hb hXs hbl hbA hS (i := nI (i + 2)) (vp_in_nI (by omega) (by omega)) dL_law_178 ?_
  rw [nI_clamp (show i + 2 < 2 ^ 31 by omega)]
  refine lv_i2l (v := (xs (i + 2)).toInt64) hx hb dL_law_179 rfl ?_
  refine lv_ldc2 (v := 4294967295) hx hb hown (hts (.constantLong RL 58 (4294967295)) (List.mem_of_getElem? (i := 7) (by decide +kernel))) dL_law_180 ?_
  refine lv_land hx hb dL_law_183 ?_
  refine lv_lor hx hb dL_law_184 ?_
  rw [hsd]
  refine zy_callW (n := 1) (C := RX3) (As := [.long sd]) (rest := [.int (j_X3_deal urow sd)]) (wr := jCL a0 aR aF aG cI (j_X2_deal_vrow vrow sd) (j_X2_deal_vdrawn) (j_X2_deal_vtr vrow sd) (j_X2_deal_vled) (j_X2_deal_vmov) vw1 vw2 veo (j_X2_deal_veb) (j_X2_deal_vh1 vrow sd) (j_X2_deal_vt1) (j_X2_deal_vp1) (j_X2_deal_vk1) (j_X2_deal_vg1) (j_X2_deal_vh2 vrow sd) (j_X2_deal_vt2) (j_X2_deal_vp2) (j_X2_deal_vk2) (j_X2_deal_vg2) aO cL vout ++ we) S (c_X3_deal b0 bP bR bS bT bG bW bH bO cP cR cS cT cG cW cH cO uplace urow upts utks uglv uwin uheld utab udrawn udealt uon uturn uled utr uthr sd) gL_law_X3_deal rfl (by decide +kernel) rfl ⟨⟨rfl, rfl⟩, ⟨Nat.le_of_ble_eq_true rfl, Nat.le_of_ble_eq_true rfl⟩, (by show cells ≤ 601024; omega), (by show slots ≤ 7293034; omega)⟩ hPm1 (zy_Pa.mpr ⟨hP1, hPe1⟩) hKM hN (zy_Dp hD2 (List.perm_append_comm_assoc _ _ _)) hS hA 3 rfl rfl rfl hl.1 rfl (Nat.le_of_ble_eq_true rfl) dL_law_185 (fun H2 locs2 hPm2 hPr3 hD3 hS => ?_)
  obtain ⟨hP2, hPe2⟩ := zy_Pa.mp hPr3
  refine lv_icmp_eq (tgt := 945) hx hb dL_law_188 (by decide) (fun _ => ?_) (fun f => absurd rfl f)
  exact W.widen (k := cells + 2) (n := slots + 8196) (by omega) (by omega) (kk H2 locs2 ls (zyI_mk hd2.1 (zyE_deal hE) hP2 hPm2 hPe2 (zy_Dp hD3 (List.perm_append_comm_assoc _ _ _))) hS hl)
end ZC
