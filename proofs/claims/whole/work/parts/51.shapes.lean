/-! THE SHAPES OF THE LAW'S CASES (laid by wip/whole/shapes.py) -/
/-- what holds through the whole walk -/
def zyX (l : Launch) (p : Program) (s : State) (m : MethodId) (c : Code) (b L : Nat) (xs : Nat → Int32) (D : va_G) (A : Nat → Prop) (cI cL cP cR cS cT cG cW cH cO : ClassId) : Prop :=
  CallFix p m c cL_law 7 s #[Value.ref b] wsL_law RL ∧ jN s ∧ jX A s s.heap ∧ va_Nc "java/lang/IllegalStateException" "java/lang/IllegalArgumentException" s ∧ l.stackTraces = false ∧ va_X b L xs s s.heap ∧ b < s.heap.size ∧ ¬ A b ∧ (∀ q : Nat, s.heap.size ≤ q → A q) ∧ va_K D vwCl [(cI, .int), (cL, .long)] s ∧ va_K D vwCl [(cP, .int), (cR, .int), (cS, .int), (cT, .int), (cG, .int), (cW, .int), (cH, .int), (cO, .int)] s ∧ L ≤ 1536
section ZS
variable {p : Program} {l : Launch} {e : Env} {s : State} {m : MethodId} {below : List Frame} {meth : Method} {c : Code} {H : Heap} {locs : List Loc} {cells slots : Nat} {Q : State → Prop} {ls : Array Slot}
variable {b L : Nat} {xs : Nat → Int32} {D : va_G} {A : Nat → Prop} {cI cL cP cR cS cT cG cW cH cO : ClassId} {a0 aO b0 i : Nat}
/-- what was thrown is compared, then the answers -/
theorem zy_tail {t : Nat} {o9 : Int} {k bq : Int32} {vout : Nat → Int64} {q0 : Nat} {wm w1 : va_W} {fs : List Value} (X : zyX l p s m c b L xs D A cI cL cP cR cS cT cG cW cH cO) (d0 : decode cL_law t = .ok (.aload_n 2, 1)) (d1 : decode cL_law (t + 1) = .ok (.invokevirtual 71, 3)) (d4 : decode cL_law (t + 4) = .ok (.iload 5, 2)) (d6 : decode cL_law (t + 6) = .ok (.if_icmp .eq 5, 3)) (d11 : decode cL_law (t + 11) = .ok (.iload 5, 2)) (d13 : decode cL_law (t + 13) = .ok (.ifCond .ne 15, 3)) (d16 : decode cL_law (t + 16) = .ok (.aload_n 3, 1)) (d17 : decode cL_law (t + 17) = .ok (.iconst 0, 1)) (d18 : decode cL_law (t + 18) = .ok (.laload, 1)) (d19 : decode cL_law (t + 19) = .ok (.iload 6, 2)) (d21 : decode cL_law (t + 21) = .ok (.i2l, 1)) (d22 : decode cL_law (t + 22) = .ok (.lcmp, 1)) (d23 : decode cL_law (t + 23) = .ok (.ifCond .eq 5, 3)) (d28 : decode cL_law (t + 28) = .ok (.goto o9, 3)) (ho : ((t + 28 : Nat) : Int) + o9 = ((945 : Nat) : Int))
    (hthr : jR l yX3_thrown wsX3_thrown rX3_thrown D [.ref b0] wm [(cP, .int), (cR, .int), (cS, .int), (cT, .int), (cG, .int), (cW, .int), (cH, .int), (cO, .int)] (.int k)) (he : wm[0]? = some (b0, .inr (3, fs))) (ha : w1[q0]? = some (aO, .inl (cL, 1, .inr (.inl vout)))) (hPm : va_P D vwCl wm H) (hP1 : va_P D vwCl w1 H) (hk : k = 0 → vout 0 = bq.toInt64)
    (hl : lv_has ls 7 [(6, .int bq), (5, .int k), (4, .int (nI i)), (3, .ref aO), (2, .ref b0), (1, .ref a0), (0, .ref b)]) (hro : cells ≤ 601024 ∧ slots ≤ 7293034)
    (kk : W p l e room_1 s m #[Value.ref b] below meth c H locs cells slots Q (F0 m 945 ls [])) : W p l e room_1 s m #[Value.ref b] below meth c H locs cells slots Q (F0 m t ls []) := by
  obtain ⟨S, hN, -, -, -, -, -, -, -, hKC, hKM, -⟩ := X
  obtain ⟨hx, hb, hml, hown, hts⟩ := id S
  refine lv_aload_n hx hb d0 rfl (lv_at hl 4 rfl) ?_
  refine zy_callR (n := 0) (C := RX3) (As := []) (rest := []) S hthr gL_law_X3_thrown rfl (by decide +kernel) rfl ⟨⟨rfl, rfl⟩, ⟨Nat.le_of_ble_eq_true rfl, Nat.le_of_ble_eq_true rfl⟩, hro.1, hro.2⟩ hPm hKM hN 3 rfl rfl he hl.1 rfl (Nat.le_of_ble_eq_true rfl) d1 ?_
  refine lv_iload hx hb d4 (lv_at hl 1 rfl) ?_
  refine lv_icmp_eq (tgt := t + 11) hx hb d6 (by omega) (fun _ => ?_) (fun f => absurd rfl f)
  refine lv_iload hx hb d11 (lv_at hl 1 rfl) ?_
  refine lv_if_ne (tgt := t + 28) hx hb d13 (by omega) (fun _ => ?_) (fun k0 => ?_)
  · exact lv_goto (tgt := 945) hx hb d28 ho kk
  · refine lv_aload_n hx hb d16 rfl (lv_at hl 3 rfl) ?_
    refine lv_iconst (v := 0) hx hb d17 (by decide) ?_
    refine va_lald hx hb hKC hP1 q0 1 ha rfl (i := 0) (by unfold vp_in; decide) d18 ?_
    refine lv_iload hx hb d19 (lv_at hl 0 rfl) ?_
    refine lv_i2l (v := bq.toInt64) hx hb d21 rfl ?_
    refine W.lcmp hx hb d22 ?_
    refine lv_if_eq (tgt := t + 28) hx hb d23 (by omega) (fun _ => ?_) (fun f => ?_)
    · exact lv_goto (tgt := 945) hx hb d28 ho kk
    · refine absurd ((lg_cmp_eq _ _).mpr ?_) f
      rw [zr_c0]
      exact hk k0
/-- a catching case of 0 script ints -/
theorem zy_shape0 {t ix1 ix2 : Nat} {o9 : Int} {k bq : Int32} {Z : Type} {post : Int32 → Z → Prop} {B : (Nat → Prop) → Z → State → Prop} {y y3 : MethodName} {wl wl' wl3 wl3' : List Cond} {rm rm3 : Room} {mc ms maxL maxL3 : Nat} {ret ret3 : Option FieldType} {bytes bytes3 : ByteArray} {hh : List (Nat × Nat × Nat × Nat)} {wc wm wm' we : va_W} {fs fs' : List Value} {Zp : va_W → Prop} {tyC : List (ClassId × FieldType)}
    (X : zyX l p s m c b L xs D A cI cL cP cR cS cT cG cW cH cO) (hKt : va_K D vwCl tyC s) (d0 : decode cL_law t = .ok (.aload_n 1, 1)) (d1 : decode cL_law (t + 1) = .ok (.aload_n 3, 1)) (d2 : decode cL_law (t + 2) = .ok (.invokestatic ix1, 3)) (d5 : decode cL_law (t + 5) = .ok (.istore 5, 2)) (d7 : decode cL_law (t + 7) = .ok (.aload_n 2, 1)) (d8 : decode cL_law (t + 8) = .ok (.invokevirtual ix2, 3)) (d11 : decode cL_law (t + 11) = .ok (.istore 6, 2))
    (e0 : decode cL_law (t + 13) = .ok (.aload_n 2, 1)) (e1 : decode cL_law ((t + 13) + 1) = .ok (.invokevirtual 71, 3)) (e4 : decode cL_law ((t + 13) + 4) = .ok (.iload 5, 2)) (e6 : decode cL_law ((t + 13) + 6) = .ok (.if_icmp .eq 5, 3)) (e11 : decode cL_law ((t + 13) + 11) = .ok (.iload 5, 2)) (e13 : decode cL_law ((t + 13) + 13) = .ok (.ifCond .ne 15, 3)) (e16 : decode cL_law ((t + 13) + 16) = .ok (.aload_n 3, 1)) (e17 : decode cL_law ((t + 13) + 17) = .ok (.iconst 0, 1)) (e18 : decode cL_law ((t + 13) + 18) = .ok (.laload, 1)) (e19 : decode cL_law ((t + 13) + 19) = .ok (.iload 6, 2)) (e21 : decode cL_law ((t + 13) + 21) = .ok (.i2l, 1)) (e22 : decode cL_law ((t + 13) + 22) = .ok (.lcmp, 1)) (e23 : decode cL_law ((t + 13) + 23) = .ok (.ifCond .eq 5, 3)) (e28 : decode cL_law ((t + 13) + 28) = .ok (.goto o9, 3)) (ho : ((t + 13 + 28 : Nat) : Int) + o9 = ((945 : Nat) : Int))
    (hM : ∀ sz : Nat, vx_Met l y wl rm (jPl D [.ref a0, .ref aO] wc tyC sz) (va_Qi post (B (va_A wc sz)) (va_A wc sz)) (fun _ _ _ => False) mc ms (va_A wc sz)) (hT : GoodIn wsL_law (va_wsS RL ix1 y wl)) (hw : wl = Cond.codeWith y bytes maxL ret hh :: wl') (hd : y.cls ≠ "java/lang/invoke/MethodHandle" ∧ y.cls ≠ "java/lang/invoke/VarHandle" ∧ (parseMethodDescriptor y.desc).map (fun d => d.parameters.length) = some 2) (hR : (rm.cells = mc ∧ rm.slots = ms) ∧ (rm.frames + 1 ≤ room_1.frames ∧ 8 + (maxL + 11) + rm.locals ≤ room_1.locals)) (hmc : mc ≤ 2 ∧ ms ≤ 8196)
    (hZ : ∀ (A9 : Nat → Prop) (r : Int32) (u : Z) (t9 : State), s.vm.Alike t9.vm → post r u → B A9 u t9 → r = k ∧ ∃ w1 : va_W, Zp w1 ∧ va_P D vwCl w1 t9.heap ∧ va_D A9 w1)
    (hM3 : jWi l y3 wl3 rm3 D [.ref b0] wm [(cP, .int), (cR, .int), (cS, .int), (cT, .int), (cG, .int), (cW, .int), (cH, .int), (cO, .int)] bq wm') (hT3 : GoodIn wsL_law (wsV RL ix2 RX3 y3 wl3)) (hw3 : wl3 = Cond.code y3 bytes3 maxL3 ret3 :: wl3') (hd3 : y3.cls = RX3 ∧ y3.cls ≠ "java/lang/invoke/MethodHandle" ∧ y3.cls ≠ "java/lang/invoke/VarHandle" ∧ (parseMethodDescriptor y3.desc).map (fun d => d.parameters.length) = some 0) (hR3 : (rm3.cells = 0 ∧ rm3.slots = 0) ∧ (rm3.frames + 1 ≤ room_1.frames ∧ 8 + (maxL3 + 11) + rm3.locals ≤ room_1.locals)) (he3 : wm[0]? = some (b0, .inr (3, fs)))
    (hthr : jR l yX3_thrown wsX3_thrown rX3_thrown D [.ref b0] wm' [(cP, .int), (cR, .int), (cS, .int), (cT, .int), (cG, .int), (cW, .int), (cH, .int), (cO, .int)] (.int k)) (he : wm'[0]? = some (b0, .inr (3, fs')))
    (hO : ∀ w1, Zp w1 → ∃ (q0 : Nat) (vout : Nat → Int64), w1[q0]? = some (aO, .inl (cL, 1, .inr (.inl vout))) ∧ (k = 0 → vout 0 = bq.toInt64))
    (hPc : va_P D vwCl wc H) (hPm : va_P D vwCl wm H) (hPe : va_P D vwCl we H) (hD : va_D A (wc ++ (wm ++ we))) (hS : va_S A s.heap H locs) (hi : i + 2 < L) (hl : lv_has ls 7 [(4, .int (nI i)), (3, .ref aO), (2, .ref b0), (1, .ref a0), (0, .ref b)]) (hro : cells + 2 ≤ 601024 ∧ slots + 8196 ≤ 7293034)
    (kk : ∀ (w1 : va_W) (H1 : Heap) (locs1 : List Loc) (ls1 : Array Slot), Zp w1 → va_P D vwCl w1 H1 → va_P D vwCl wm' H1 → va_P D vwCl we H1 → va_D A (w1 ++ (wm' ++ we)) → va_S A s.heap H1 locs1 → lv_has ls1 7 [(4, .int (nI i)), (3, .ref aO), (2, .ref b0), (1, .ref a0), (0, .ref b)] → W p l e room_1 s m #[Value.ref b] below meth c H1 locs1 (cells + 2) (slots + 8196) Q (F0 m 945 ls1 [])) : W p l e room_1 s m #[Value.ref b] below meth c H locs cells slots Q (F0 m t ls []) := by
  obtain ⟨S, hN, hX, hY, -, hXs, hbl, hbA, hA, hKC, hKM, hLL⟩ := id X
  obtain ⟨hx, hb, hml, hown, hts⟩ := id S
  refine lv_aload_n hx hb d0 rfl (lv_at hl 3 rfl) ?_
  refine lv_aload_n hx hb d1 rfl (lv_at hl 1 rfl) ?_
  refine zy_callL (n := 2) (As := [.ref a0, .ref aO]) (rest := []) (wr := wm ++ we) S hM hT hw hd rfl ⟨hR.1, hR.2, (by show cells + mc ≤ 601024; omega), (by show slots + ms ≤ 7293034; omega)⟩ hPc (zy_Pa.mpr ⟨hPm, hPe⟩) hKt hN hX hY hD hS hA hl.1 rfl (Nat.le_of_ble_eq_true rfl) d2 (fun r u t9 H1 locs1 ht hvm hp hB hPr hJ hS => ?_)
  obtain ⟨rk, w1, hz, hP1, hD1⟩ := hZ _ r u t9 hvm hp hB
  rw [ht] at hP1
  subst rk
  have hD2 : va_D A (w1 ++ (wm ++ we)) := hJ w1 hD1
  obtain ⟨hPm, hPe⟩ := zy_Pa.mp hPr
  refine lv_istore (lv' := [(5, .int r), (4, .int (nI i)), (3, .ref aO), (2, .ref b0), (1, .ref a0), (0, .ref b)]) hx hb d5 hl (by decide) rfl (fun ls hl => ?_)
  refine lv_aload_n hx hb d7 rfl (lv_at hl 3 rfl) ?_
  refine zy_callW (n := 0) (C := RX3) (As := []) (rest := []) (wr := w1 ++ we) S hM3 hT3 hw3 hd3 rfl ⟨hR3.1, hR3.2, (by show cells + mc ≤ 601024; omega), (by show slots + ms ≤ 7293034; omega)⟩ hPm (zy_Pa.mpr ⟨hP1, hPe⟩) hKM hN (zy_Dp hD2 (List.perm_append_comm_assoc _ _ _)) hS hA 3 rfl rfl he3 hl.1 rfl (Nat.le_of_ble_eq_true rfl) d8 (fun H2 locs2 hPm hPr hD3 hS => ?_)
  obtain ⟨hP1, hPe⟩ := zy_Pa.mp hPr
  refine lv_istore (lv' := [(6, .int bq), (5, .int r), (4, .int (nI i)), (3, .ref aO), (2, .ref b0), (1, .ref a0), (0, .ref b)]) hx hb d11 hl (by decide) rfl (fun ls hl => ?_)
  obtain ⟨q0, vout, ha, hk⟩ := hO w1 hz
  refine zy_tail (t := t + 13) X e0 e1 e4 e6 e11 e13 e16 e17 e18 e19 e21 e22 e23 e28 ho hthr he ha hPm hP1 hk hl ⟨(by omega), (by omega)⟩ ?_
  exact W.widen (k := cells + 2) (n := slots + 8196) (by omega) (by omega) (kk w1 H2 locs2 ls hz hP1 hPm hPe (zy_Dp hD3 (List.perm_append_comm_assoc _ _ _)) hS (lv_sub hl [2, 3, 4, 5, 6] rfl))
/-- a catching case of 1 script ints -/
theorem zy_shape1 {t ix1 ix2 : Nat} {o9 : Int} {k bq : Int32} {Z : Type} {post : Int32 → Z → Prop} {B : (Nat → Prop) → Z → State → Prop} {y y3 : MethodName} {wl wl' wl3 wl3' : List Cond} {rm rm3 : Room} {mc ms maxL maxL3 : Nat} {ret ret3 : Option FieldType} {bytes bytes3 : ByteArray} {hh : List (Nat × Nat × Nat × Nat)} {wc wm wm' we : va_W} {fs fs' : List Value} {Zp : va_W → Prop} {tyC : List (ClassId × FieldType)}
    (X : zyX l p s m c b L xs D A cI cL cP cR cS cT cG cW cH cO) (hKt : va_K D vwCl tyC s) (d0 : decode cL_law t = .ok (.aload_n 1, 1)) (d1 : decode cL_law (t + 1) = .ok (.aload_n 0, 1)) (d2 : decode cL_law (t + 2) = .ok (.iload 4, 2)) (d4 : decode cL_law (t + 4) = .ok (.iconst 1, 1)) (d5 : decode cL_law (t + 5) = .ok (.iadd, 1)) (d6 : decode cL_law (t + 6) = .ok (.iaload, 1)) (d7 : decode cL_law (t + 7) = .ok (.aload_n 3, 1)) (d8 : decode cL_law (t + 8) = .ok (.invokestatic ix1, 3)) (d11 : decode cL_law (t + 11) = .ok (.istore 5, 2)) (d13 : decode cL_law (t + 13) = .ok (.aload_n 2, 1)) (d14 : decode cL_law (t + 14) = .ok (.aload_n 0, 1)) (d15 : decode cL_law (t + 15) = .ok (.iload 4, 2)) (d17 : decode cL_law (t + 17) = .ok (.iconst 1, 1)) (d18 : decode cL_law (t + 18) = .ok (.iadd, 1)) (d19 : decode cL_law (t + 19) = .ok (.iaload, 1)) (d20 : decode cL_law (t + 20) = .ok (.invokevirtual ix2, 3)) (d23 : decode cL_law (t + 23) = .ok (.istore 6, 2))
    (e0 : decode cL_law (t + 25) = .ok (.aload_n 2, 1)) (e1 : decode cL_law ((t + 25) + 1) = .ok (.invokevirtual 71, 3)) (e4 : decode cL_law ((t + 25) + 4) = .ok (.iload 5, 2)) (e6 : decode cL_law ((t + 25) + 6) = .ok (.if_icmp .eq 5, 3)) (e11 : decode cL_law ((t + 25) + 11) = .ok (.iload 5, 2)) (e13 : decode cL_law ((t + 25) + 13) = .ok (.ifCond .ne 15, 3)) (e16 : decode cL_law ((t + 25) + 16) = .ok (.aload_n 3, 1)) (e17 : decode cL_law ((t + 25) + 17) = .ok (.iconst 0, 1)) (e18 : decode cL_law ((t + 25) + 18) = .ok (.laload, 1)) (e19 : decode cL_law ((t + 25) + 19) = .ok (.iload 6, 2)) (e21 : decode cL_law ((t + 25) + 21) = .ok (.i2l, 1)) (e22 : decode cL_law ((t + 25) + 22) = .ok (.lcmp, 1)) (e23 : decode cL_law ((t + 25) + 23) = .ok (.ifCond .eq 5, 3)) (e28 : decode cL_law ((t + 25) + 28) = .ok (.goto o9, 3)) (ho : ((t + 25 + 28 : Nat) : Int) + o9 = ((945 : Nat) : Int))
    (hM : ∀ sz : Nat, vx_Met l y wl rm (jPl D [.ref a0, .int (xs (i + 1)), .ref aO] wc tyC sz) (va_Qi post (B (va_A wc sz)) (va_A wc sz)) (fun _ _ _ => False) mc ms (va_A wc sz)) (hT : GoodIn wsL_law (va_wsS RL ix1 y wl)) (hw : wl = Cond.codeWith y bytes maxL ret hh :: wl') (hd : y.cls ≠ "java/lang/invoke/MethodHandle" ∧ y.cls ≠ "java/lang/invoke/VarHandle" ∧ (parseMethodDescriptor y.desc).map (fun d => d.parameters.length) = some 3) (hR : (rm.cells = mc ∧ rm.slots = ms) ∧ (rm.frames + 1 ≤ room_1.frames ∧ 8 + (maxL + 11) + rm.locals ≤ room_1.locals)) (hmc : mc ≤ 2 ∧ ms ≤ 8196)
    (hZ : ∀ (A9 : Nat → Prop) (r : Int32) (u : Z) (t9 : State), s.vm.Alike t9.vm → post r u → B A9 u t9 → r = k ∧ ∃ w1 : va_W, Zp w1 ∧ va_P D vwCl w1 t9.heap ∧ va_D A9 w1)
    (hM3 : jWi l y3 wl3 rm3 D [.ref b0, .int (xs (i + 1))] wm [(cP, .int), (cR, .int), (cS, .int), (cT, .int), (cG, .int), (cW, .int), (cH, .int), (cO, .int)] bq wm') (hT3 : GoodIn wsL_law (wsV RL ix2 RX3 y3 wl3)) (hw3 : wl3 = Cond.code y3 bytes3 maxL3 ret3 :: wl3') (hd3 : y3.cls = RX3 ∧ y3.cls ≠ "java/lang/invoke/MethodHandle" ∧ y3.cls ≠ "java/lang/invoke/VarHandle" ∧ (parseMethodDescriptor y3.desc).map (fun d => d.parameters.length) = some 1) (hR3 : (rm3.cells = 0 ∧ rm3.slots = 0) ∧ (rm3.frames + 1 ≤ room_1.frames ∧ 8 + (maxL3 + 11) + rm3.locals ≤ room_1.locals)) (he3 : wm[0]? = some (b0, .inr (3, fs)))
    (hthr : jR l yX3_thrown wsX3_thrown rX3_thrown D [.ref b0] wm' [(cP, .int), (cR, .int), (cS, .int), (cT, .int), (cG, .int), (cW, .int), (cH, .int), (cO, .int)] (.int k)) (he : wm'[0]? = some (b0, .inr (3, fs')))
    (hO : ∀ w1, Zp w1 → ∃ (q0 : Nat) (vout : Nat → Int64), w1[q0]? = some (aO, .inl (cL, 1, .inr (.inl vout))) ∧ (k = 0 → vout 0 = bq.toInt64))
    (hPc : va_P D vwCl wc H) (hPm : va_P D vwCl wm H) (hPe : va_P D vwCl we H) (hD : va_D A (wc ++ (wm ++ we))) (hS : va_S A s.heap H locs) (hi : i + 2 < L) (hl : lv_has ls 7 [(4, .int (nI i)), (3, .ref aO), (2, .ref b0), (1, .ref a0), (0, .ref b)]) (hro : cells + 2 ≤ 601024 ∧ slots + 8196 ≤ 7293034)
    (kk : ∀ (w1 : va_W) (H1 : Heap) (locs1 : List Loc) (ls1 : Array Slot), Zp w1 → va_P D vwCl w1 H1 → va_P D vwCl wm' H1 → va_P D vwCl we H1 → va_D A (w1 ++ (wm' ++ we)) → va_S A s.heap H1 locs1 → lv_has ls1 7 [(4, .int (nI i)), (3, .ref aO), (2, .ref b0), (1, .ref a0), (0, .ref b)] → W p l e room_1 s m #[Value.ref b] below meth c H1 locs1 (cells + 2) (slots + 8196) Q (F0 m 945 ls1 [])) : W p l e room_1 s m #[Value.ref b] below meth c H locs cells slots Q (F0 m t ls []) := by
  obtain ⟨S, hN, hX, hY, -, hXs, hbl, hbA, hA, hKC, hKM, hLL⟩ := id X
  obtain ⟨hx, hb, hml, hown, hts⟩ := id S
  refine lv_aload_n hx hb d0 rfl (lv_at hl 3 rfl) ?_
  refine lv_aload_n hx hb d1 rfl (lv_at hl 4 rfl) ?_
  refine lv_iload hx hb d2 (lv_at hl 0 rfl) ?_
  refine lv_iconst (v := 1) hx hb d4 (by decide) ?_
  refine lv_iadd hx hb d5 ?_
  rw [show nI i + 1 = nI (i + 1) from nI_add i 1]
  refine va_sld hx hb hXs hbl hbA hS (i := nI (i + 1)) (vp_in_nI (by omega) (by omega)) d6 ?_
  rw [nI_clamp (show i + 1 < 2 ^ 31 by omega)]
  refine lv_aload_n hx hb d7 rfl (lv_at hl 1 rfl) ?_
  refine zy_callL (n := 3) (As := [.ref a0, .int (xs (i + 1)), .ref aO]) (rest := []) (wr := wm ++ we) S hM hT hw hd rfl ⟨hR.1, hR.2, (by show cells + mc ≤ 601024; omega), (by show slots + ms ≤ 7293034; omega)⟩ hPc (zy_Pa.mpr ⟨hPm, hPe⟩) hKt hN hX hY hD hS hA hl.1 rfl (Nat.le_of_ble_eq_true rfl) d8 (fun r u t9 H1 locs1 ht hvm hp hB hPr hJ hS => ?_)
  obtain ⟨rk, w1, hz, hP1, hD1⟩ := hZ _ r u t9 hvm hp hB
  rw [ht] at hP1
  subst rk
  have hD2 : va_D A (w1 ++ (wm ++ we)) := hJ w1 hD1
  obtain ⟨hPm, hPe⟩ := zy_Pa.mp hPr
  refine lv_istore (lv' := [(5, .int r), (4, .int (nI i)), (3, .ref aO), (2, .ref b0), (1, .ref a0), (0, .ref b)]) hx hb d11 hl (by decide) rfl (fun ls hl => ?_)
  refine lv_aload_n hx hb d13 rfl (lv_at hl 3 rfl) ?_
  refine lv_aload_n hx hb d14 rfl (lv_at hl 5 rfl) ?_
  refine lv_iload hx hb d15 (lv_at hl 1 rfl) ?_
  refine lv_iconst (v := 1) hx hb d17 (by decide) ?_
  refine lv_iadd hx hb d18 ?_
  rw [show nI i + 1 = nI (i + 1) from nI_add i 1]
  refine va_sld hx hb hXs hbl hbA hS (i := nI (i + 1)) (vp_in_nI (by omega) (by omega)) d19 ?_
  rw [nI_clamp (show i + 1 < 2 ^ 31 by omega)]
  refine zy_callW (n := 1) (C := RX3) (As := [.int (xs (i + 1))]) (rest := []) (wr := w1 ++ we) S hM3 hT3 hw3 hd3 rfl ⟨hR3.1, hR3.2, (by show cells + mc ≤ 601024; omega), (by show slots + ms ≤ 7293034; omega)⟩ hPm (zy_Pa.mpr ⟨hP1, hPe⟩) hKM hN (zy_Dp hD2 (List.perm_append_comm_assoc _ _ _)) hS hA 3 rfl rfl he3 hl.1 rfl (Nat.le_of_ble_eq_true rfl) d20 (fun H2 locs2 hPm hPr hD3 hS => ?_)
  obtain ⟨hP1, hPe⟩ := zy_Pa.mp hPr
  refine lv_istore (lv' := [(6, .int bq), (5, .int r), (4, .int (nI i)), (3, .ref aO), (2, .ref b0), (1, .ref a0), (0, .ref b)]) hx hb d23 hl (by decide) rfl (fun ls hl => ?_)
  obtain ⟨q0, vout, ha, hk⟩ := hO w1 hz
  refine zy_tail (t := t + 25) X e0 e1 e4 e6 e11 e13 e16 e17 e18 e19 e21 e22 e23 e28 ho hthr he ha hPm hP1 hk hl ⟨(by omega), (by omega)⟩ ?_
  exact W.widen (k := cells + 2) (n := slots + 8196) (by omega) (by omega) (kk w1 H2 locs2 ls hz hP1 hPm hPe (zy_Dp hD3 (List.perm_append_comm_assoc _ _ _)) hS (lv_sub hl [2, 3, 4, 5, 6] rfl))
/-- a catching case of 2 script ints -/
theorem zy_shape2 {t ix1 ix2 : Nat} {o9 : Int} {k bq : Int32} {Z : Type} {post : Int32 → Z → Prop} {B : (Nat → Prop) → Z → State → Prop} {y y3 : MethodName} {wl wl' wl3 wl3' : List Cond} {rm rm3 : Room} {mc ms maxL maxL3 : Nat} {ret ret3 : Option FieldType} {bytes bytes3 : ByteArray} {hh : List (Nat × Nat × Nat × Nat)} {wc wm wm' we : va_W} {fs fs' : List Value} {Zp : va_W → Prop} {tyC : List (ClassId × FieldType)}
    (X : zyX l p s m c b L xs D A cI cL cP cR cS cT cG cW cH cO) (hKt : va_K D vwCl tyC s) (d0 : decode cL_law t = .ok (.aload_n 1, 1)) (d1 : decode cL_law (t + 1) = .ok (.aload_n 0, 1)) (d2 : decode cL_law (t + 2) = .ok (.iload 4, 2)) (d4 : decode cL_law (t + 4) = .ok (.iconst 1, 1)) (d5 : decode cL_law (t + 5) = .ok (.iadd, 1)) (d6 : decode cL_law (t + 6) = .ok (.iaload, 1)) (d7 : decode cL_law (t + 7) = .ok (.aload_n 0, 1)) (d8 : decode cL_law (t + 8) = .ok (.iload 4, 2)) (d10 : decode cL_law (t + 10) = .ok (.iconst 2, 1)) (d11 : decode cL_law (t + 11) = .ok (.iadd, 1)) (d12 : decode cL_law (t + 12) = .ok (.iaload, 1)) (d13 : decode cL_law (t + 13) = .ok (.aload_n 3, 1)) (d14 : decode cL_law (t + 14) = .ok (.invokestatic ix1, 3)) (d17 : decode cL_law (t + 17) = .ok (.istore 5, 2)) (d19 : decode cL_law (t + 19) = .ok (.aload_n 2, 1)) (d20 : decode cL_law (t + 20) = .ok (.aload_n 0, 1)) (d21 : decode cL_law (t + 21) = .ok (.iload 4, 2)) (d23 : decode cL_law (t + 23) = .ok (.iconst 1, 1)) (d24 : decode cL_law (t + 24) = .ok (.iadd, 1)) (d25 : decode cL_law (t + 25) = .ok (.iaload, 1)) (d26 : decode cL_law (t + 26) = .ok (.aload_n 0, 1)) (d27 : decode cL_law (t + 27) = .ok (.iload 4, 2)) (d29 : decode cL_law (t + 29) = .ok (.iconst 2, 1)) (d30 : decode cL_law (t + 30) = .ok (.iadd, 1)) (d31 : decode cL_law (t + 31) = .ok (.iaload, 1)) (d32 : decode cL_law (t + 32) = .ok (.invokevirtual ix2, 3)) (d35 : decode cL_law (t + 35) = .ok (.istore 6, 2))
    (e0 : decode cL_law (t + 37) = .ok (.aload_n 2, 1)) (e1 : decode cL_law ((t + 37) + 1) = .ok (.invokevirtual 71, 3)) (e4 : decode cL_law ((t + 37) + 4) = .ok (.iload 5, 2)) (e6 : decode cL_law ((t + 37) + 6) = .ok (.if_icmp .eq 5, 3)) (e11 : decode cL_law ((t + 37) + 11) = .ok (.iload 5, 2)) (e13 : decode cL_law ((t + 37) + 13) = .ok (.ifCond .ne 15, 3)) (e16 : decode cL_law ((t + 37) + 16) = .ok (.aload_n 3, 1)) (e17 : decode cL_law ((t + 37) + 17) = .ok (.iconst 0, 1)) (e18 : decode cL_law ((t + 37) + 18) = .ok (.laload, 1)) (e19 : decode cL_law ((t + 37) + 19) = .ok (.iload 6, 2)) (e21 : decode cL_law ((t + 37) + 21) = .ok (.i2l, 1)) (e22 : decode cL_law ((t + 37) + 22) = .ok (.lcmp, 1)) (e23 : decode cL_law ((t + 37) + 23) = .ok (.ifCond .eq 5, 3)) (e28 : decode cL_law ((t + 37) + 28) = .ok (.goto o9, 3)) (ho : ((t + 37 + 28 : Nat) : Int) + o9 = ((945 : Nat) : Int))
    (hM : ∀ sz : Nat, vx_Met l y wl rm (jPl D [.ref a0, .int (xs (i + 1)), .int (xs (i + 2)), .ref aO] wc tyC sz) (va_Qi post (B (va_A wc sz)) (va_A wc sz)) (fun _ _ _ => False) mc ms (va_A wc sz)) (hT : GoodIn wsL_law (va_wsS RL ix1 y wl)) (hw : wl = Cond.codeWith y bytes maxL ret hh :: wl') (hd : y.cls ≠ "java/lang/invoke/MethodHandle" ∧ y.cls ≠ "java/lang/invoke/VarHandle" ∧ (parseMethodDescriptor y.desc).map (fun d => d.parameters.length) = some 4) (hR : (rm.cells = mc ∧ rm.slots = ms) ∧ (rm.frames + 1 ≤ room_1.frames ∧ 8 + (maxL + 11) + rm.locals ≤ room_1.locals)) (hmc : mc ≤ 2 ∧ ms ≤ 8196)
    (hZ : ∀ (A9 : Nat → Prop) (r : Int32) (u : Z) (t9 : State), s.vm.Alike t9.vm → post r u → B A9 u t9 → r = k ∧ ∃ w1 : va_W, Zp w1 ∧ va_P D vwCl w1 t9.heap ∧ va_D A9 w1)
    (hM3 : jWi l y3 wl3 rm3 D [.ref b0, .int (xs (i + 1)), .int (xs (i + 2))] wm [(cP, .int), (cR, .int), (cS, .int), (cT, .int), (cG, .int), (cW, .int), (cH, .int), (cO, .int)] bq wm') (hT3 : GoodIn wsL_law (wsV RL ix2 RX3 y3 wl3)) (hw3 : wl3 = Cond.code y3 bytes3 maxL3 ret3 :: wl3') (hd3 : y3.cls = RX3 ∧ y3.cls ≠ "java/lang/invoke/MethodHandle" ∧ y3.cls ≠ "java/lang/invoke/VarHandle" ∧ (parseMethodDescriptor y3.desc).map (fun d => d.parameters.length) = some 2) (hR3 : (rm3.cells = 0 ∧ rm3.slots = 0) ∧ (rm3.frames + 1 ≤ room_1.frames ∧ 8 + (maxL3 + 11) + rm3.locals ≤ room_1.locals)) (he3 : wm[0]? = some (b0, .inr (3, fs)))
    (hthr : jR l yX3_thrown wsX3_thrown rX3_thrown D [.ref b0] wm' [(cP, .int), (cR, .int), (cS, .int), (cT, .int), (cG, .int), (cW, .int), (cH, .int), (cO, .int)] (.int k)) (he : wm'[0]? = some (b0, .inr (3, fs')))
    (hO : ∀ w1, Zp w1 → ∃ (q0 : Nat) (vout : Nat → Int64), w1[q0]? = some (aO, .inl (cL, 1, .inr (.inl vout))) ∧ (k = 0 → vout 0 = bq.toInt64))
    (hPc : va_P D vwCl wc H) (hPm : va_P D vwCl wm H) (hPe : va_P D vwCl we H) (hD : va_D A (wc ++ (wm ++ we))) (hS : va_S A s.heap H locs) (hi : i + 2 < L) (hl : lv_has ls 7 [(4, .int (nI i)), (3, .ref aO), (2, .ref b0), (1, .ref a0), (0, .ref b)]) (hro : cells + 2 ≤ 601024 ∧ slots + 8196 ≤ 7293034)
    (kk : ∀ (w1 : va_W) (H1 : Heap) (locs1 : List Loc) (ls1 : Array Slot), Zp w1 → va_P D vwCl w1 H1 → va_P D vwCl wm' H1 → va_P D vwCl we H1 → va_D A (w1 ++ (wm' ++ we)) → va_S A s.heap H1 locs1 → lv_has ls1 7 [(4, .int (nI i)), (3, .ref aO), (2, .ref b0), (1, .ref a0), (0, .ref b)] → W p l e room_1 s m #[Value.ref b] below meth c H1 locs1 (cells + 2) (slots + 8196) Q (F0 m 945 ls1 [])) : W p l e room_1 s m #[Value.ref b] below meth c H locs cells slots Q (F0 m t ls []) := by
  obtain ⟨S, hN, hX, hY, -, hXs, hbl, hbA, hA, hKC, hKM, hLL⟩ := id X
  obtain ⟨hx, hb, hml, hown, hts⟩ := id S
  refine lv_aload_n hx hb d0 rfl (lv_at hl 3 rfl) ?_
  refine lv_aload_n hx hb d1 rfl (lv_at hl 4 rfl) ?_
  refine lv_iload hx hb d2 (lv_at hl 0 rfl) ?_
  refine lv_iconst (v := 1) hx hb d4 (by decide) ?_
  refine lv_iadd hx hb d5 ?_
  rw [show nI i + 1 = nI (i + 1) from nI_add i 1]
  refine va_sld hx hb hXs hbl hbA hS (i := nI (i + 1)) (vp_in_nI (by omega) (by omega)) d6 ?_
  rw [nI_clamp (show i + 1 < 2 ^ 31 by omega)]
  refine lv_aload_n hx hb d7 rfl (lv_at hl 4 rfl) ?_
  refine lv_iload hx hb d8 (lv_at hl 0 rfl) ?_
  refine lv_iconst (v := 2) hx hb d10 (by decide) ?_
  refine lv_iadd hx hb d11 ?_
  rw [show nI i + 2 = nI (i + 2) from nI_add i 2]
  refine va_sld hx hb hXs hbl hbA hS (i := nI (i + 2)) (vp_in_nI (by omega) (by omega)) d12 ?_
  rw [nI_clamp (show i + 2 < 2 ^ 31 by omega)]
  refine lv_aload_n hx hb d13 rfl (lv_at hl 1 rfl) ?_
  refine zy_callL (n := 4) (As := [.ref a0, .int (xs (i + 1)), .int (xs (i + 2)), .ref aO]) (rest := []) (wr := wm ++ we) S hM hT hw hd rfl ⟨hR.1, hR.2, (by show cells + mc ≤ 601024; omega), (by show slots + ms ≤ 7293034; omega)⟩ hPc (zy_Pa.mpr ⟨hPm, hPe⟩) hKt hN hX hY hD hS hA hl.1 rfl (Nat.le_of_ble_eq_true rfl) d14 (fun r u t9 H1 locs1 ht hvm hp hB hPr hJ hS => ?_)
  obtain ⟨rk, w1, hz, hP1, hD1⟩ := hZ _ r u t9 hvm hp hB
  rw [ht] at hP1
  subst rk
  have hD2 : va_D A (w1 ++ (wm ++ we)) := hJ w1 hD1
  obtain ⟨hPm, hPe⟩ := zy_Pa.mp hPr
  refine lv_istore (lv' := [(5, .int r), (4, .int (nI i)), (3, .ref aO), (2, .ref b0), (1, .ref a0), (0, .ref b)]) hx hb d17 hl (by decide) rfl (fun ls hl => ?_)
  refine lv_aload_n hx hb d19 rfl (lv_at hl 3 rfl) ?_
  refine lv_aload_n hx hb d20 rfl (lv_at hl 5 rfl) ?_
  refine lv_iload hx hb d21 (lv_at hl 1 rfl) ?_
  refine lv_iconst (v := 1) hx hb d23 (by decide) ?_
  refine lv_iadd hx hb d24 ?_
  rw [show nI i + 1 = nI (i + 1) from nI_add i 1]
  refine va_sld hx hb hXs hbl hbA hS (i := nI (i + 1)) (vp_in_nI (by omega) (by omega)) d25 ?_
  rw [nI_clamp (show i + 1 < 2 ^ 31 by omega)]
  refine lv_aload_n hx hb d26 rfl (lv_at hl 5 rfl) ?_
  refine lv_iload hx hb d27 (lv_at hl 1 rfl) ?_
  refine lv_iconst (v := 2) hx hb d29 (by decide) ?_
  refine lv_iadd hx hb d30 ?_
  rw [show nI i + 2 = nI (i + 2) from nI_add i 2]
  refine va_sld hx hb hXs hbl hbA hS (i := nI (i + 2)) (vp_in_nI (by omega) (by omega)) d31 ?_
  rw [nI_clamp (show i + 2 < 2 ^ 31 by omega)]
  refine zy_callW (n := 2) (C := RX3) (As := [.int (xs (i + 1)), .int (xs (i + 2))]) (rest := []) (wr := w1 ++ we) S hM3 hT3 hw3 hd3 rfl ⟨hR3.1, hR3.2, (by show cells + mc ≤ 601024; omega), (by show slots + ms ≤ 7293034; omega)⟩ hPm (zy_Pa.mpr ⟨hP1, hPe⟩) hKM hN (zy_Dp hD2 (List.perm_append_comm_assoc _ _ _)) hS hA 3 rfl rfl he3 hl.1 rfl (Nat.le_of_ble_eq_true rfl) d32 (fun H2 locs2 hPm hPr hD3 hS => ?_)
  obtain ⟨hP1, hPe⟩ := zy_Pa.mp hPr
  refine lv_istore (lv' := [(6, .int bq), (5, .int r), (4, .int (nI i)), (3, .ref aO), (2, .ref b0), (1, .ref a0), (0, .ref b)]) hx hb d35 hl (by decide) rfl (fun ls hl => ?_)
  obtain ⟨q0, vout, ha, hk⟩ := hO w1 hz
  refine zy_tail (t := t + 37) X e0 e1 e4 e6 e11 e13 e16 e17 e18 e19 e21 e22 e23 e28 ho hthr he ha hPm hP1 hk hl ⟨(by omega), (by omega)⟩ ?_
  exact W.widen (k := cells + 2) (n := slots + 8196) (by omega) (by omega) (kk w1 H2 locs2 ls hz hP1 hPm hPe (zy_Dp hD3 (List.perm_append_comm_assoc _ _ _)) hS (lv_sub hl [2, 3, 4, 5, 6] rfl))
/-- a plain case: both answers, compared at once -/
theorem zy_plain {t ix1 ix2 : Nat} {o9 : Int} {bq : Int32} {y y3 : MethodName} {wl wl' wl3 wl3' : List Cond} {rm rm3 : Room} {maxL maxL3 : Nat} {ret ret3 : Option FieldType} {bytes bytes3 : ByteArray} {wc wd wm wm' we : va_W} {fs fs' : List Value} {tyD : List (ClassId × FieldType)}
    (X : zyX l p s m c b L xs D A cI cL cP cR cS cT cG cW cH cO) (hKt : va_K D vwCl tyD s) (d0 : decode cL_law t = .ok (.aload_n 1, 1)) (d1 : decode cL_law (t + 1) = .ok (.invokevirtual ix1, 3)) (d4 : decode cL_law (t + 4) = .ok (.aload_n 2, 1)) (d5 : decode cL_law (t + 5) = .ok (.invokevirtual ix2, 3)) (d8 : decode cL_law (t + 8) = .ok (.if_icmp .eq o9, 3)) (ho : ((t + 8 : Nat) : Int) + o9 = ((945 : Nat) : Int))
    (hM : jR l y wl rm D [.ref a0] wd tyD (.int bq)) (hT : GoodIn wsL_law (wsV RL ix1 RX2 y wl)) (hw : wl = Cond.code y bytes maxL ret :: wl') (hd : y.cls = RX2 ∧ y.cls ≠ "java/lang/invoke/MethodHandle" ∧ y.cls ≠ "java/lang/invoke/VarHandle" ∧ (parseMethodDescriptor y.desc).map (fun d => d.parameters.length) = some 0) (hR : (rm.cells = 0 ∧ rm.slots = 0) ∧ (rm.frames + 1 ≤ room_1.frames ∧ 8 + (maxL + 11) + rm.locals ≤ room_1.locals)) (hed : wd[0]? = some (a0, .inr (2, fs)))
    (hM3 : jWi l y3 wl3 rm3 D [.ref b0] wm [(cP, .int), (cR, .int), (cS, .int), (cT, .int), (cG, .int), (cW, .int), (cH, .int), (cO, .int)] bq wm') (hT3 : GoodIn wsL_law (wsV RL ix2 RX3 y3 wl3)) (hw3 : wl3 = Cond.code y3 bytes3 maxL3 ret3 :: wl3') (hd3 : y3.cls = RX3 ∧ y3.cls ≠ "java/lang/invoke/MethodHandle" ∧ y3.cls ≠ "java/lang/invoke/VarHandle" ∧ (parseMethodDescriptor y3.desc).map (fun d => d.parameters.length) = some 0) (hR3 : (rm3.cells = 0 ∧ rm3.slots = 0) ∧ (rm3.frames + 1 ≤ room_1.frames ∧ 8 + (maxL3 + 11) + rm3.locals ≤ room_1.locals)) (he3 : wm[0]? = some (b0, .inr (3, fs')))
    (hPd : va_P D vwCl wd H) (hPc : va_P D vwCl wc H) (hPm : va_P D vwCl wm H) (hPe : va_P D vwCl we H) (hD : va_D A (wc ++ (wm ++ we))) (hS : va_S A s.heap H locs) (hl : lv_has ls 7 [(4, .int (nI i)), (3, .ref aO), (2, .ref b0), (1, .ref a0), (0, .ref b)]) (hro : cells + 2 ≤ 601024 ∧ slots + 8196 ≤ 7293034)
    (kk : ∀ (H1 : Heap) (locs1 : List Loc) (ls1 : Array Slot), va_P D vwCl wc H1 → va_P D vwCl wm' H1 → va_P D vwCl we H1 → va_D A (wc ++ (wm' ++ we)) → va_S A s.heap H1 locs1 → lv_has ls1 7 [(4, .int (nI i)), (3, .ref aO), (2, .ref b0), (1, .ref a0), (0, .ref b)] → W p l e room_1 s m #[Value.ref b] below meth c H1 locs1 (cells + 2) (slots + 8196) Q (F0 m 945 ls1 [])) : W p l e room_1 s m #[Value.ref b] below meth c H locs cells slots Q (F0 m t ls []) := by
  obtain ⟨S, hN, hX, hY, -, hXs, hbl, hbA, hA, hKC, hKM, hLL⟩ := id X
  obtain ⟨hx, hb, hml, hown, hts⟩ := id S
  refine lv_aload_n hx hb d0 rfl (lv_at hl 3 rfl) ?_
  refine zy_callR (n := 0) (C := RX2) (As := []) (rest := []) S hM hT hw hd rfl ⟨hR.1, hR.2, (by show cells ≤ 601024; omega), (by show slots ≤ 7293034; omega)⟩ hPd hKt hN 2 rfl rfl hed hl.1 rfl (Nat.le_of_ble_eq_true rfl) d1 ?_
  refine lv_aload_n hx hb d4 rfl (lv_at hl 2 rfl) ?_
  refine zy_callW (n := 0) (C := RX3) (As := []) (rest := [.int bq]) (wr := wc ++ we) S hM3 hT3 hw3 hd3 rfl ⟨hR3.1, hR3.2, (by show cells ≤ 601024; omega), (by show slots ≤ 7293034; omega)⟩ hPm (zy_Pa.mpr ⟨hPc, hPe⟩) hKM hN (zy_Dp hD (List.perm_append_comm_assoc _ _ _)) hS hA 3 rfl rfl he3 hl.1 rfl (Nat.le_of_ble_eq_true rfl) d5 (fun H2 locs2 hPm hPr hD3 hS => ?_)
  obtain ⟨hPc, hPe⟩ := zy_Pa.mp hPr
  refine lv_icmp_eq (tgt := 945) hx hb d8 ho (fun _ => ?_) (fun f => absurd rfl f)
  exact W.widen (k := cells + 2) (n := slots + 8196) (by omega) (by omega) (kk H2 locs2 ls hPc hPm hPe (zy_Dp hD3 (List.perm_append_comm_assoc _ _ _)) hS hl)
end ZS
