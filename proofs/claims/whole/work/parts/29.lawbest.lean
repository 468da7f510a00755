/-! THE LAW: best, bestCard where they don't throw (laid by wip/whole/lawbest.py) -/
theorem jlb_of {QQ : (Nat → Prop) → Array Value → State → Outcome → State → Prop} {mc ms : Nat} {l : Launch} {y : MethodName} {wl wl' : List Cond} {rm : Room} {D : va_G} {av : List Value} {ws : va_W} {tys : List (ClassId × FieldType)} {cc : ByteArray} {maxL : Nat} {ret : Option FieldType} {hh : List (Nat × Nat × Nat × Nat)}
    (hy : plainName y.cls = true) (hw : wl = Cond.codeWith y cc maxL ret hh :: wl') (hn : (lg_sl av).length ≤ maxL)
    (body : ∀ (p : Program) (e : Env) (s : State) (m : MethodId) (below : List Frame) (meth : Method) (c : Code) (ls : Array Slot) (A : Nat → Prop), CallFix p m c cc maxL s av.toArray wl y.cls → meth.sig.returnType = ret → meth.locks = false → c.exceptionTable.toList = tableOf hh →
      va_P D vwCl ws s.heap → va_K D vwCl tys s → jN s → va_D A ws → va_S A s.heap s.heap [] → (∀ q : Nat, s.heap.size ≤ q → A q) → lv_has ls maxL (lv_args 0 av) →
      W p l e rm s m av.toArray below meth c s.heap [] 0 0 (vx_MQ below (QQ A) (fun _ _ _ => False) av.toArray s mc ms A) (F0 m 0 ls [])) : ∀ sz : Nat, vx_Met l y wl rm (jPl D av ws tys sz) (QQ (va_A ws sz)) (fun _ _ _ => False) mc ms (va_A ws sz) := by
  intro sz
  refine vx_ofWH (cc := cc) (maxL := maxL) (ret := ret) (hh := hh) hy hw ?_
  intro p e s m args below meth c s₁ B hml hv
  obtain ⟨rfl, hsz, hP, hK, hN, hD0, hX, hY⟩ := hv
  subst hsz
  have hts := atoms_spec (ws := wl) B.pre
  have htb : c.exceptionTable.toList = tableOf hh := vx_table (x := y) B (hts _ (by rw [hw]; exact List.mem_cons_self))
  have hown : s.vm.findClass y.cls = some m.cls := findClass_of_methodNamed B.named
  have hl := lv_entry av (n := maxL) hn
  rw [lg_entry_eq]
  exact body p e s m below meth c _ (va_A ws s.heap.size) ⟨B.exec, B.bytes, hml, hown, hts⟩ B.returns B.notSynchronized htb hP hK hN (hD0.self (sz := s.heap.size)) va_S.rf (fun q h => Or.inr h) hl
theorem jlb_call {p : Program} {l : Launch} {e : Env} {R : Room} {s : State} {m : MethodId} {args : Array Value} {below : List Frame} {meth : Method} {c : Code} {H : Heap} {locs : List Loc} {cells slots : Nat} {Q : State → Prop} {cc bytes : ByteArray} {pc index mc ms maxL nL : Nat} {ls : Array Slot} {rest : List Value} {Ts wl wl' : List Cond} {own : String} {y : MethodName} {rm : Room} {ret : Option FieldType} {D : va_G} {wd wb : va_W} {tys tyb : List (ClassId × FieldType)} {b : Nat} {A : Nat → Prop} {r : Int32} {Val : (Nat → Int32) → Prop} {B : (Nat → Prop) → (Nat → Int32) → State → Prop} {fs : List Value}
    (S : CallFix p m c cc nL s args Ts own) (hM : ∀ sz : Nat, Met l y wl rm (jPw D [.ref b] wd tys sz) (va_Qi (fun (q : Int32) (u : Nat → Int32) => q = r ∧ Val u) (B (va_A wd sz)) (va_A wd sz)) mc ms (va_A wd sz)) (hT : GoodIn Ts (wsV own index RX2 y wl)) (hw : wl = Cond.code y bytes maxL ret :: wl') (hd : y.cls = RX2 ∧ y.cls ≠ "java/lang/invoke/MethodHandle" ∧ y.cls ≠ "java/lang/invoke/VarHandle" ∧ (parseMethodDescriptor y.desc).map (fun d => d.parameters.length) = some 0)
    (hR : (rm.cells = mc ∧ rm.slots = ms) ∧ (rm.frames + 1 ≤ R.frames ∧ 8 + (maxL + 11) + rm.locals ≤ R.locals) ∧ cells + mc ≤ R.cells ∧ slots + ms ≤ R.slots) (hP : va_P D vwCl wb H) (hK : va_K D vwCl tyb s) (hN : jN s) (hD : va_D A wb) (hS : va_S A s.heap H locs) (hA : ∀ q : Nat, s.heap.size ≤ q → A q) (is ts : List Nat) (hi : is.map (fun i => wb[i]?) = wd.map some) (hnd : va_nd is = true) (ht : ts.filterMap (fun i => tyb[i]?) = tys) (he : wd[0]? = some (b, .inr (2, fs)))
    (hl : lv_has ls nL []) (hW : (rest.map fun v => v.category).sum ≤ 8) (hdg : decode cc pc = .ok (.invokevirtual index, 3))
    (kk : ∀ (u : Nat → Int32) (t : State) (H1 : Heap) (locs1 : List Loc), t.heap = H1 → s.vm.Alike t.vm → Val u → B (va_A wd H.size) u t → (∀ q, va_A wd H.size q → A q) → (∀ q : Nat, q < H.size → ¬ va_A wd H.size q → H1[q]? = H[q]?) → va_S A s.heap H1 locs1 → W p l e R s m args below meth c H1 locs1 (cells + mc) (slots + ms) Q (F0 m (pc + 3) ls (.int r :: rest))) : W p l e R s m args below meth c H locs cells slots Q (F0 m pc ls (.ref b :: rest)) := by
  have hPc := hP.sub is (jx_fm hi)
  have hKc := hK.sub ts ht
  have hDc := hD.sub is hnd hi
  have hFc := va_free (wc := wd) hD hS hA is hi
  refine va_calli (va_runV (As := []) (rest := rest) S (hM H.size) (cwV 0 S.2.2.2.2 hT hw hR.1.1 hR.1.2 hd hR.2.1) ⟨jPw_blind, va_recv hKc hPc (ci := 2) (q0 := 0) rfl he, fun U hU hW => ⟨rfl, by rw [hU], by rw [hU]; exact hPc, va_K.moved hW.alike hKc, jN.warm hW hN, hDc.weaken (fun _ _ _ _ => trivial)⟩⟩ rfl rfl hl.1 rfl (lv_room hW) hdg ⟨hR.2.2.1, hR.2.2.2⟩) hS (fun q _ h => hFc q h) hFc (fun r' u t H1 locs1 ht hvm hw hB hz1 hk1 hS1 => ?_)
  rw [hw.1]
  exact kk u t H1 locs1 ht hvm hw.2 hB hFc hk1 hS1
abbrev rL_best_S1 : Room := { frames := 65, cells := 2, slots := 8196, locals := 2200 }
set_option maxRecDepth 100000 in
set_option maxHeartbeats 8000000 in
theorem l_L_best_S1 {l : Launch} {D : va_G} {a0 aO : Nat} {fs : List Value} {e1 e2 e3 e4 e5 : Nat × va_E} {g0 g1 g2 g3 g4 : Nat × va_E} {g5 : (Nat → Int32) → Nat × va_E} {cI cM cL : ClassId} {vout : Nat → Int64} {r : Int32} {Val : (Nat → Int32) → Prop}
    (hM : ∀ sz : Nat, Met l yX2_best wsX2_best rX2_best_S1 (jPw D [.ref a0] [(a0, .inr (2, fs)), e1, e2, e3, e4, e5] [(cI, .int), (cM, .int)] sz) (va_Qi (fun (q : Int32) (u : Nat → Int32) => q = r ∧ Val u) (fun u t => va_P D vwCl [g0, g1, g2, g3, g4, g5 u] t.heap ∧ va_K D vwCl [(cI, .int), (cM, .int)] t ∧ va_D (va_A [(a0, .inr (2, fs)), e1, e2, e3, e4, e5] sz) [g0, g1, g2, g3, g4, g5 u]) (va_A [(a0, .inr (2, fs)), e1, e2, e3, e4, e5] sz)) 0 0 (va_A [(a0, .inr (2, fs)), e1, e2, e3, e4, e5] sz)) :
    ∀ sz : Nat, vx_Met l yL_best wsL_best rL_best_S1 (jPl D [.ref a0, .ref aO] [(a0, .inr (2, fs)), e1, e2, e3, e4, e5, (aO, .inl (cL, 1, .inr (.inl vout)))] [(cI, .int), (cM, .int), (cL, .long)] sz) (va_Qi (fun (q : Int32) (u : Nat → Int32) => q = 0 ∧ Val u) (fun u t => va_P D vwCl [g0, g1, g2, g3, g4, g5 u, (aO, .inl (cL, 1, .inr (.inl (vp_updL vout (0 : Int32).toNatClampNeg r.toInt64))))] t.heap ∧ va_K D vwCl [(cI, .int), (cM, .int), (cL, .long)] t ∧ va_D (va_A [(a0, .inr (2, fs)), e1, e2, e3, e4, e5, (aO, .inl (cL, 1, .inr (.inl vout)))] sz) [g0, g1, g2, g3, g4, g5 u, (aO, .inl (cL, 1, .inr (.inl (vp_updL vout (0 : Int32).toNatClampNeg r.toInt64))))]) (va_A [(a0, .inr (2, fs)), e1, e2, e3, e4, e5, (aO, .inl (cL, 1, .inr (.inl vout)))] sz)) (fun _ _ _ => False) 2 8196 (va_A [(a0, .inr (2, fs)), e1, e2, e3, e4, e5, (aO, .inl (cL, 1, .inr (.inl vout)))] sz) := by
  refine jlb_of (QQ := fun A => va_Qi (fun (q : Int32) (u : Nat → Int32) => q = 0 ∧ Val u) (fun u t => va_P D vwCl [g0, g1, g2, g3, g4, g5 u, (aO, .inl (cL, 1, .inr (.inl (vp_updL vout (0 : Int32).toNatClampNeg r.toInt64))))] t.heap ∧ va_K D vwCl [(cI, .int), (cM, .int), (cL, .long)] t ∧ va_D A [g0, g1, g2, g3, g4, g5 u, (aO, .inl (cL, 1, .inr (.inl (vp_updL vout (0 : Int32).toNatClampNeg r.toInt64))))]) A) (cc := cL_best) (maxL := 3) (ret := (some .int)) (hh := [(0, 8, 11, 15)]) (by decide) rfl (Nat.le_of_ble_eq_true rfl) ?_
  intro p e s m below meth c ls A S hr hlocks htb hP hK hN hD hS hA hl
  obtain ⟨hx, hb, hml, hown, hts⟩ := id S
  have hl : lv_has ls 3 [(0, .ref a0), (1, .ref aO)] := hl
  refine lv_aload_n hx hb dL_best_0 rfl (lv_at hl 1 rfl) ?_
  refine lv_iconst (v := 0) hx hb dL_best_1 (by decide) ?_
  refine lv_aload_n hx hb dL_best_2 rfl (lv_at hl 0 rfl) ?_
  refine jlb_call (mc := 0) (ms := 0) (rm := rX2_best_S1) (wd := [(a0, .inr (2, fs)), e1, e2, e3, e4, e5]) (tys := [(cI, .int), (cM, .int)]) (B := fun A9 => (fun u t => va_P D vwCl [g0, g1, g2, g3, g4, g5 u] t.heap ∧ va_K D vwCl [(cI, .int), (cM, .int)] t ∧ va_D A9 [g0, g1, g2, g3, g4, g5 u])) (rest := [.int 0, .ref aO]) S hM gL_best_X2_best rfl (by decide +kernel) ⟨⟨rfl, rfl⟩, ⟨Nat.le_of_ble_eq_true rfl, Nat.le_of_ble_eq_true rfl⟩, Nat.le_of_ble_eq_true rfl, Nat.le_of_ble_eq_true rfl⟩ hP hK hN hD hS hA [0, 1, 2, 3, 4, 5] [0, 1] rfl rfl rfl rfl (lv_nil hl) (Nat.le_of_ble_eq_true rfl) dL_best_3 (fun u t H1 locs1 ht hvm hu hB hFc hk1 hS1 => ?_)
  obtain ⟨hP1, hK1, hD1⟩ := hB
  rw [ht] at hP1
  obtain ⟨hP, hD⟩ := jw_join (wn := [g0, g1, g2, g3, g4, g5 u, (aO, .inl (cL, 1, .inr (.inl vout)))]) hP hD [0, 1, 2, 3, 4, 5] [6] [1, 2, 3, 4, 5, 6, 0] rfl (wr := [(aO, .inl (cL, 1, .inr (.inl vout)))]) rfl rfl (by decide) rfl rfl hk1 hFc hP1 hD1
  have hS := hS1
  refine lv_i2l (v := r.toInt64) hx hb dL_best_6 rfl ?_
  refine va_last hx hb hK hP hD hS 6 2 rfl rfl (i := 0) (by unfold vp_in; decide) dL_best_7 (fun H locs hP hD hS => ?_)
  have hP : va_P D vwCl [g0, g1, g2, g3, g4, g5 u, (aO, .inl (cL, 1, .inr (.inl (vp_updL vout (0 : Int32).toNatClampNeg r.toInt64))))] H := hP
  have hD : va_D A [g0, g1, g2, g3, g4, g5 u, (aO, .inl (cL, 1, .inr (.inl (vp_updL vout (0 : Int32).toNatClampNeg r.toInt64))))] := hD
  refine lv_goto (tgt := 14) hx hb dL_best_8 (by decide) ?_
  refine lv_iconst (v := 0) hx hb dL_best_14 (by decide) ?_
  exact W.widen (k := 2) (n := 8196) (Nat.le_of_ble_eq_true rfl) (Nat.le_of_ble_eq_true rfl) (vx_ret (W.iret hx hb hr (fun t ht hW => ⟨⟨0, u, rfl, ⟨rfl, hu⟩, by rw [ht]; exact hP, va_K.moved hW.alike hK, hD⟩, hS.F ht⟩) hS.2.2 dL_best_15))
abbrev rL_best_S0 : Room := { frames := 65, cells := 2, slots := 8196, locals := 2200 }
set_option maxRecDepth 100000 in
set_option maxHeartbeats 8000000 in
theorem l_L_best_S0 {l : Launch} {D : va_G} {a0 aO : Nat} {fs : List Value} {e1 e2 e3 e4 e5 : Nat × va_E} {g0 g1 g2 g3 g4 : Nat × va_E} {g5 : (Nat → Int32) → Nat × va_E} {cI cM cL : ClassId} {vout : Nat → Int64} {r : Int32} {Val : (Nat → Int32) → Prop}
    (hM : ∀ sz : Nat, Met l yX2_best wsX2_best rX2_best_S0 (jPw D [.ref a0] [(a0, .inr (2, fs)), e1, e2, e3, e4, e5] [(cI, .int), (cM, .int)] sz) (va_Qi (fun (q : Int32) (u : Nat → Int32) => q = r ∧ Val u) (fun u t => va_P D vwCl [g0, g1, g2, g3, g4, g5 u] t.heap ∧ va_K D vwCl [(cI, .int), (cM, .int)] t ∧ va_D (va_A [(a0, .inr (2, fs)), e1, e2, e3, e4, e5] sz) [g0, g1, g2, g3, g4, g5 u]) (va_A [(a0, .inr (2, fs)), e1, e2, e3, e4, e5] sz)) 0 0 (va_A [(a0, .inr (2, fs)), e1, e2, e3, e4, e5] sz)) :
    ∀ sz : Nat, vx_Met l yL_best wsL_best rL_best_S0 (jPl D [.ref a0, .ref aO] [(a0, .inr (2, fs)), e1, e2, e3, e4, e5, (aO, .inl (cL, 1, .inr (.inl vout)))] [(cI, .int), (cM, .int), (cL, .long)] sz) (va_Qi (fun (q : Int32) (u : Nat → Int32) => q = 0 ∧ Val u) (fun u t => va_P D vwCl [g0, g1, g2, g3, g4, g5 u, (aO, .inl (cL, 1, .inr (.inl (vp_updL vout (0 : Int32).toNatClampNeg r.toInt64))))] t.heap ∧ va_K D vwCl [(cI, .int), (cM, .int), (cL, .long)] t ∧ va_D (va_A [(a0, .inr (2, fs)), e1, e2, e3, e4, e5, (aO, .inl (cL, 1, .inr (.inl vout)))] sz) [g0, g1, g2, g3, g4, g5 u, (aO, .inl (cL, 1, .inr (.inl (vp_updL vout (0 : Int32).toNatClampNeg r.toInt64))))]) (va_A [(a0, .inr (2, fs)), e1, e2, e3, e4, e5, (aO, .inl (cL, 1, .inr (.inl vout)))] sz)) (fun _ _ _ => False) 2 8196 (va_A [(a0, .inr (2, fs)), e1, e2, e3, e4, e5, (aO, .inl (cL, 1, .inr (.inl vout)))] sz) := by
  refine jlb_of (QQ := fun A => va_Qi (fun (q : Int32) (u : Nat → Int32) => q = 0 ∧ Val u) (fun u t => va_P D vwCl [g0, g1, g2, g3, g4, g5 u, (aO, .inl (cL, 1, .inr (.inl (vp_updL vout (0 : Int32).toNatClampNeg r.toInt64))))] t.heap ∧ va_K D vwCl [(cI, .int), (cM, .int), (cL, .long)] t ∧ va_D A [g0, g1, g2, g3, g4, g5 u, (aO, .inl (cL, 1, .inr (.inl (vp_updL vout (0 : Int32).toNatClampNeg r.toInt64))))]) A) (cc := cL_best) (maxL := 3) (ret := (some .int)) (hh := [(0, 8, 11, 15)]) (by decide) rfl (Nat.le_of_ble_eq_true rfl) ?_
  intro p e s m below meth c ls A S hr hlocks htb hP hK hN hD hS hA hl
  obtain ⟨hx, hb, hml, hown, hts⟩ := id S
  have hl : lv_has ls 3 [(0, .ref a0), (1, .ref aO)] := hl
  refine lv_aload_n hx hb dL_best_0 rfl (lv_at hl 1 rfl) ?_
  refine lv_iconst (v := 0) hx hb dL_best_1 (by decide) ?_
  refine lv_aload_n hx hb dL_best_2 rfl (lv_at hl 0 rfl) ?_
  refine jlb_call (mc := 0) (ms := 0) (rm := rX2_best_S0) (wd := [(a0, .inr (2, fs)), e1, e2, e3, e4, e5]) (tys := [(cI, .int), (cM, .int)]) (B := fun A9 => (fun u t => va_P D vwCl [g0, g1, g2, g3, g4, g5 u] t.heap ∧ va_K D vwCl [(cI, .int), (cM, .int)] t ∧ va_D A9 [g0, g1, g2, g3, g4, g5 u])) (rest := [.int 0, .ref aO]) S hM gL_best_X2_best rfl (by decide +kernel) ⟨⟨rfl, rfl⟩, ⟨Nat.le_of_ble_eq_true rfl, Nat.le_of_ble_eq_true rfl⟩, Nat.le_of_ble_eq_true rfl, Nat.le_of_ble_eq_true rfl⟩ hP hK hN hD hS hA [0, 1, 2, 3, 4, 5] [0, 1] rfl rfl rfl rfl (lv_nil hl) (Nat.le_of_ble_eq_true rfl) dL_best_3 (fun u t H1 locs1 ht hvm hu hB hFc hk1 hS1 => ?_)
  obtain ⟨hP1, hK1, hD1⟩ := hB
  rw [ht] at hP1
  obtain ⟨hP, hD⟩ := jw_join (wn := [g0, g1, g2, g3, g4, g5 u, (aO, .inl (cL, 1, .inr (.inl vout)))]) hP hD [0, 1, 2, 3, 4, 5] [6] [1, 2, 3, 4, 5, 6, 0] rfl (wr := [(aO, .inl (cL, 1, .inr (.inl vout)))]) rfl rfl (by decide) rfl rfl hk1 hFc hP1 hD1
  have hS := hS1
  refine lv_i2l (v := r.toInt64) hx hb dL_best_6 rfl ?_
  refine va_last hx hb hK hP hD hS 6 2 rfl rfl (i := 0) (by unfold vp_in; decide) dL_best_7 (fun H locs hP hD hS => ?_)
  have hP : va_P D vwCl [g0, g1, g2, g3, g4, g5 u, (aO, .inl (cL, 1, .inr (.inl (vp_updL vout (0 : Int32).toNatClampNeg r.toInt64))))] H := hP
  have hD : va_D A [g0, g1, g2, g3, g4, g5 u, (aO, .inl (cL, 1, .inr (.inl (vp_updL vout (0 : Int32).toNatClampNeg r.toInt64))))] := hD
  refine lv_goto (tgt := 14) hx hb dL_best_8 (by decide) ?_
  refine lv_iconst (v := 0) hx hb dL_best_14 (by decide) ?_
  exact W.widen (k := 2) (n := 8196) (Nat.le_of_ble_eq_true rfl) (Nat.le_of_ble_eq_true rfl) (vx_ret (W.iret hx hb hr (fun t ht hW => ⟨⟨0, u, rfl, ⟨rfl, hu⟩, by rw [ht]; exact hP, va_K.moved hW.alike hK, hD⟩, hS.F ht⟩) hS.2.2 dL_best_15))
abbrev rL_best_N : Room := { frames := 65, cells := 2, slots := 8196, locals := 2200 }
set_option maxRecDepth 100000 in
set_option maxHeartbeats 8000000 in
theorem l_L_best_N {l : Launch} {D : va_G} {a0 aO : Nat} {fs : List Value} {e1 e2 e3 : Nat × va_E} {g0 : Nat → Nat × va_E} {g1 g2 g3 : Nat × va_E} {g4 : Nat → Nat → Nat × va_E} {g5 : Nat → ClassId → (Nat → Int32) → Nat × va_E} {cI cL : ClassId} {vout : Nat → Int64} {r : Int32} {Val : (Nat → Int32) → Prop}
    (hM : ∀ sz : Nat, Met l yX2_best wsX2_best rX2_best_N (jPw D [.ref a0] [(a0, .inr (2, fs)), e1, e2, e3] [(cI, .int)] sz) (va_Qi (fun (q : Int32) (u : Nat → Int32) => q = r ∧ Val u) (fun u t => ∃ (aE aM : Nat) (cM : ClassId), va_P D vwCl [g0 aE, g1, g2, g3, g4 aE aM, g5 aM cM u] t.heap ∧ va_K D vwCl [(cI, .int), (cM, .int)] t ∧ va_D (va_A [(a0, .inr (2, fs)), e1, e2, e3] sz) [g0 aE, g1, g2, g3, g4 aE aM, g5 aM cM u]) (va_A [(a0, .inr (2, fs)), e1, e2, e3] sz)) 2 8196 (va_A [(a0, .inr (2, fs)), e1, e2, e3] sz)) :
    ∀ sz : Nat, vx_Met l yL_best wsL_best rL_best_N (jPl D [.ref a0, .ref aO] [(a0, .inr (2, fs)), e1, e2, e3, (aO, .inl (cL, 1, .inr (.inl vout)))] [(cI, .int), (cL, .long)] sz) (va_Qi (fun (q : Int32) (u : Nat → Int32) => q = 0 ∧ Val u) (fun u t => ∃ (aE aM : Nat) (cM : ClassId), va_P D vwCl [g0 aE, g1, g2, g3, g4 aE aM, g5 aM cM u, (aO, .inl (cL, 1, .inr (.inl (vp_updL vout (0 : Int32).toNatClampNeg r.toInt64))))] t.heap ∧ va_K D vwCl [(cI, .int), (cM, .int), (cL, .long)] t ∧ va_D (va_A [(a0, .inr (2, fs)), e1, e2, e3, (aO, .inl (cL, 1, .inr (.inl vout)))] sz) [g0 aE, g1, g2, g3, g4 aE aM, g5 aM cM u, (aO, .inl (cL, 1, .inr (.inl (vp_updL vout (0 : Int32).toNatClampNeg r.toInt64))))]) (va_A [(a0, .inr (2, fs)), e1, e2, e3, (aO, .inl (cL, 1, .inr (.inl vout)))] sz)) (fun _ _ _ => False) 2 8196 (va_A [(a0, .inr (2, fs)), e1, e2, e3, (aO, .inl (cL, 1, .inr (.inl vout)))] sz) := by
  refine jlb_of (QQ := fun A => va_Qi (fun (q : Int32) (u : Nat → Int32) => q = 0 ∧ Val u) (fun u t => ∃ (aE aM : Nat) (cM : ClassId), va_P D vwCl [g0 aE, g1, g2, g3, g4 aE aM, g5 aM cM u, (aO, .inl (cL, 1, .inr (.inl (vp_updL vout (0 : Int32).toNatClampNeg r.toInt64))))] t.heap ∧ va_K D vwCl [(cI, .int), (cM, .int), (cL, .long)] t ∧ va_D A [g0 aE, g1, g2, g3, g4 aE aM, g5 aM cM u, (aO, .inl (cL, 1, .inr (.inl (vp_updL vout (0 : Int32).toNatClampNeg r.toInt64))))]) A) (cc := cL_best) (maxL := 3) (ret := (some .int)) (hh := [(0, 8, 11, 15)]) (by decide) rfl (Nat.le_of_ble_eq_true rfl) ?_
  intro p e s m below meth c ls A S hr hlocks htb hP hK hN hD hS hA hl
  obtain ⟨hx, hb, hml, hown, hts⟩ := id S
  have hl : lv_has ls 3 [(0, .ref a0), (1, .ref aO)] := hl
  refine lv_aload_n hx hb dL_best_0 rfl (lv_at hl 1 rfl) ?_
  refine lv_iconst (v := 0) hx hb dL_best_1 (by decide) ?_
  refine lv_aload_n hx hb dL_best_2 rfl (lv_at hl 0 rfl) ?_
  refine jlb_call (mc := 2) (ms := 8196) (rm := rX2_best_N) (wd := [(a0, .inr (2, fs)), e1, e2, e3]) (tys := [(cI, .int)]) (B := fun A9 => (fun u t => ∃ (aE aM : Nat) (cM : ClassId), va_P D vwCl [g0 aE, g1, g2, g3, g4 aE aM, g5 aM cM u] t.heap ∧ va_K D vwCl [(cI, .int), (cM, .int)] t ∧ va_D A9 [g0 aE, g1, g2, g3, g4 aE aM, g5 aM cM u])) (rest := [.int 0, .ref aO]) S hM gL_best_X2_best rfl (by decide +kernel) ⟨⟨rfl, rfl⟩, ⟨Nat.le_of_ble_eq_true rfl, Nat.le_of_ble_eq_true rfl⟩, Nat.le_of_ble_eq_true rfl, Nat.le_of_ble_eq_true rfl⟩ hP hK hN hD hS hA [0, 1, 2, 3] [0] rfl rfl rfl rfl (lv_nil hl) (Nat.le_of_ble_eq_true rfl) dL_best_3 (fun u t H1 locs1 ht hvm hu hB hFc hk1 hS1 => ?_)
  obtain ⟨aE, aM, cM, hP1, hK1, hD1⟩ := hB
  rw [ht] at hP1
  obtain ⟨hP, hD⟩ := jw_join (wn := [g0 aE, g1, g2, g3, g4 aE aM, g5 aM cM u, (aO, .inl (cL, 1, .inr (.inl vout)))]) hP hD [0, 1, 2, 3] [4] [1, 2, 3, 4, 5, 6, 0] rfl (wr := [(aO, .inl (cL, 1, .inr (.inl vout)))]) rfl rfl (by decide) rfl rfl hk1 hFc hP1 hD1
  have hK : va_K D vwCl [(cI, .int), (cM, .int), (cL, .long)] s := (va_K.moved hvm.symm hK1).app (hK.sub [1] rfl)
  have hS := hS1
  refine lv_i2l (v := r.toInt64) hx hb dL_best_6 rfl ?_
  refine va_last hx hb hK hP hD hS 6 2 rfl rfl (i := 0) (by unfold vp_in; decide) dL_best_7 (fun H locs hP hD hS => ?_)
  have hP : va_P D vwCl [g0 aE, g1, g2, g3, g4 aE aM, g5 aM cM u, (aO, .inl (cL, 1, .inr (.inl (vp_updL vout (0 : Int32).toNatClampNeg r.toInt64))))] H := hP
  have hD : va_D A [g0 aE, g1, g2, g3, g4 aE aM, g5 aM cM u, (aO, .inl (cL, 1, .inr (.inl (vp_updL vout (0 : Int32).toNatClampNeg r.toInt64))))] := hD
  refine lv_goto (tgt := 14) hx hb dL_best_8 (by decide) ?_
  refine lv_iconst (v := 0) hx hb dL_best_14 (by decide) ?_
  exact W.widen (k := 2) (n := 8196) (Nat.le_of_ble_eq_true rfl) (Nat.le_of_ble_eq_true rfl) (vx_ret (W.iret hx hb hr (fun t ht hW => ⟨⟨0, u, rfl, ⟨rfl, hu⟩, aE, aM, cM, by rw [ht]; exact hP, va_K.moved hW.alike hK, hD⟩, hS.F ht⟩) hS.2.2 dL_best_15))
abbrev rL_bestCard_S1 : Room := { frames := 65, cells := 2, slots := 8196, locals := 2200 }
set_option maxRecDepth 100000 in
set_option maxHeartbeats 8000000 in
theorem l_L_bestCard_S1 {l : Launch} {D : va_G} {a0 aO : Nat} {fs : List Value} {e1 e2 e3 e4 e5 : Nat × va_E} {g0 g1 g2 g3 g4 : Nat × va_E} {g5 : (Nat → Int32) → Nat × va_E} {cI cM cL : ClassId} {vout : Nat → Int64} {r : Int32} {Val : (Nat → Int32) → Prop}
    (hM : ∀ sz : Nat, Met l yX2_bestCard wsX2_bestCard rX2_bestCard_S1 (jPw D [.ref a0] [(a0, .inr (2, fs)), e1, e2, e3, e4, e5] [(cI, .int), (cM, .int)] sz) (va_Qi (fun (q : Int32) (u : Nat → Int32) => q = r ∧ Val u) (fun u t => va_P D vwCl [g0, g1, g2, g3, g4, g5 u] t.heap ∧ va_K D vwCl [(cI, .int), (cM, .int)] t ∧ va_D (va_A [(a0, .inr (2, fs)), e1, e2, e3, e4, e5] sz) [g0, g1, g2, g3, g4, g5 u]) (va_A [(a0, .inr (2, fs)), e1, e2, e3, e4, e5] sz)) 0 0 (va_A [(a0, .inr (2, fs)), e1, e2, e3, e4, e5] sz)) :
    ∀ sz : Nat, vx_Met l yL_bestCard wsL_bestCard rL_bestCard_S1 (jPl D [.ref a0, .ref aO] [(a0, .inr (2, fs)), e1, e2, e3, e4, e5, (aO, .inl (cL, 1, .inr (.inl vout)))] [(cI, .int), (cM, .int), (cL, .long)] sz) (va_Qi (fun (q : Int32) (u : Nat → Int32) => q = 0 ∧ Val u) (fun u t => va_P D vwCl [g0, g1, g2, g3, g4, g5 u, (aO, .inl (cL, 1, .inr (.inl (vp_updL vout (0 : Int32).toNatClampNeg r.toInt64))))] t.heap ∧ va_K D vwCl [(cI, .int), (cM, .int), (cL, .long)] t ∧ va_D (va_A [(a0, .inr (2, fs)), e1, e2, e3, e4, e5, (aO, .inl (cL, 1, .inr (.inl vout)))] sz) [g0, g1, g2, g3, g4, g5 u, (aO, .inl (cL, 1, .inr (.inl (vp_updL vout (0 : Int32).toNatClampNeg r.toInt64))))]) (va_A [(a0, .inr (2, fs)), e1, e2, e3, e4, e5, (aO, .inl (cL, 1, .inr (.inl vout)))] sz)) (fun _ _ _ => False) 2 8196 (va_A [(a0, .inr (2, fs)), e1, e2, e3, e4, e5, (aO, .inl (cL, 1, .inr (.inl vout)))] sz) := by
  refine jlb_of (QQ := fun A => va_Qi (fun (q : Int32) (u : Nat → Int32) => q = 0 ∧ Val u) (fun u t => va_P D vwCl [g0, g1, g2, g3, g4, g5 u, (aO, .inl (cL, 1, .inr (.inl (vp_updL vout (0 : Int32).toNatClampNeg r.toInt64))))] t.heap ∧ va_K D vwCl [(cI, .int), (cM, .int), (cL, .long)] t ∧ va_D A [g0, g1, g2, g3, g4, g5 u, (aO, .inl (cL, 1, .inr (.inl (vp_updL vout (0 : Int32).toNatClampNeg r.toInt64))))]) A) (cc := cL_bestCard) (maxL := 3) (ret := (some .int)) (hh := [(0, 8, 11, 15)]) (by decide) rfl (Nat.le_of_ble_eq_true rfl) ?_
  intro p e s m below meth c ls A S hr hlocks htb hP hK hN hD hS hA hl
  obtain ⟨hx, hb, hml, hown, hts⟩ := id S
  have hl : lv_has ls 3 [(0, .ref a0), (1, .ref aO)] := hl
  refine lv_aload_n hx hb dL_bestCard_0 rfl (lv_at hl 1 rfl) ?_
  refine lv_iconst (v := 0) hx hb dL_bestCard_1 (by decide) ?_
  refine lv_aload_n hx hb dL_bestCard_2 rfl (lv_at hl 0 rfl) ?_
  refine jlb_call (mc := 0) (ms := 0) (rm := rX2_bestCard_S1) (wd := [(a0, .inr (2, fs)), e1, e2, e3, e4, e5]) (tys := [(cI, .int), (cM, .int)]) (B := fun A9 => (fun u t => va_P D vwCl [g0, g1, g2, g3, g4, g5 u] t.heap ∧ va_K D vwCl [(cI, .int), (cM, .int)] t ∧ va_D A9 [g0, g1, g2, g3, g4, g5 u])) (rest := [.int 0, .ref aO]) S hM gL_bestCard_X2_bestCard rfl (by decide +kernel) ⟨⟨rfl, rfl⟩, ⟨Nat.le_of_ble_eq_true rfl, Nat.le_of_ble_eq_true rfl⟩, Nat.le_of_ble_eq_true rfl, Nat.le_of_ble_eq_true rfl⟩ hP hK hN hD hS hA [0, 1, 2, 3, 4, 5] [0, 1] rfl rfl rfl rfl (lv_nil hl) (Nat.le_of_ble_eq_true rfl) dL_bestCard_3 (fun u t H1 locs1 ht hvm hu hB hFc hk1 hS1 => ?_)
  obtain ⟨hP1, hK1, hD1⟩ := hB
  rw [ht] at hP1
  obtain ⟨hP, hD⟩ := jw_join (wn := [g0, g1, g2, g3, g4, g5 u, (aO, .inl (cL, 1, .inr (.inl vout)))]) hP hD [0, 1, 2, 3, 4, 5] [6] [1, 2, 3, 4, 5, 6, 0] rfl (wr := [(aO, .inl (cL, 1, .inr (.inl vout)))]) rfl rfl (by decide) rfl rfl hk1 hFc hP1 hD1
  have hS := hS1
  refine lv_i2l (v := r.toInt64) hx hb dL_bestCard_6 rfl ?_
  refine va_last hx hb hK hP hD hS 6 2 rfl rfl (i := 0) (by unfold vp_in; decide) dL_bestCard_7 (fun H locs hP hD hS => ?_)
  have hP : va_P D vwCl [g0, g1, g2, g3, g4, g5 u, (aO, .inl (cL, 1, .inr (.inl (vp_updL vout (0 : Int32).toNatClampNeg r.toInt64))))] H := hP
  have hD : va_D A [g0, g1, g2, g3, g4, g5 u, (aO, .inl (cL, 1, .inr (.inl (vp_updL vout (0 : Int32).toNatClampNeg r.toInt64))))] := hD
  refine lv_goto (tgt := 14) hx hb dL_bestCard_8 (by decide) ?_
  refine lv_iconst (v := 0) hx hb dL_bestCard_14 (by decide) ?_
  exact W.widen (k := 2) (n := 8196) (Nat.le_of_ble_eq_true rfl) (Nat.le_of_ble_eq_true rfl) (vx_ret (W.iret hx hb hr (fun t ht hW => ⟨⟨0, u, rfl, ⟨rfl, hu⟩, by rw [ht]; exact hP, va_K.moved hW.alike hK, hD⟩, hS.F ht⟩) hS.2.2 dL_bestCard_15))
abbrev rL_bestCard_S0 : Room := { frames := 65, cells := 2, slots := 8196, locals := 2200 }
set_option maxRecDepth 100000 in
set_option maxHeartbeats 8000000 in
theorem l_L_bestCard_S0 {l : Launch} {D : va_G} {a0 aO : Nat} {fs : List Value} {e1 e2 e3 e4 e5 : Nat × va_E} {g0 g1 g2 g3 g4 : Nat × va_E} {g5 : (Nat → Int32) → Nat × va_E} {cI cM cL : ClassId} {vout : Nat → Int64} {r : Int32} {Val : (Nat → Int32) → Prop}
    (hM : ∀ sz : Nat, Met l yX2_bestCard wsX2_bestCard rX2_bestCard_S0 (jPw D [.ref a0] [(a0, .inr (2, fs)), e1, e2, e3, e4, e5] [(cI, .int), (cM, .int)] sz) (va_Qi (fun (q : Int32) (u : Nat → Int32) => q = r ∧ Val u) (fun u t => va_P D vwCl [g0, g1, g2, g3, g4, g5 u] t.heap ∧ va_K D vwCl [(cI, .int), (cM, .int)] t ∧ va_D (va_A [(a0, .inr (2, fs)), e1, e2, e3, e4, e5] sz) [g0, g1, g2, g3, g4, g5 u]) (va_A [(a0, .inr (2, fs)), e1, e2, e3, e4, e5] sz)) 0 0 (va_A [(a0, .inr (2, fs)), e1, e2, e3, e4, e5] sz)) :
    ∀ sz : Nat, vx_Met l yL_bestCard wsL_bestCard rL_bestCard_S0 (jPl D [.ref a0, .ref aO] [(a0, .inr (2, fs)), e1, e2, e3, e4, e5, (aO, .inl (cL, 1, .inr (.inl vout)))] [(cI, .int), (cM, .int), (cL, .long)] sz) (va_Qi (fun (q : Int32) (u : Nat → Int32) => q = 0 ∧ Val u) (fun u t => va_P D vwCl [g0, g1, g2, g3, g4, g5 u, (aO, .inl (cL, 1, .inr (.inl (vp_updL vout (0 : Int32).toNatClampNeg r.toInt64))))] t.heap ∧ va_K D vwCl [(cI, .int), (cM, .int), (cL, .long)] t ∧ va_D (va_A [(a0, .inr (2, fs)), e1, e2, e3, e4, e5, (aO, .inl (cL, 1, .inr (.inl vout)))] sz) [g0, g1, g2, g3, g4, g5 u, (aO, .inl (cL, 1, .inr (.inl (vp_updL vout (0 : Int32).toNatClampNeg r.toInt64))))]) (va_A [(a0, .inr (2, fs)), e1, e2, e3, e4, e5, (aO, .inl (cL, 1, .inr (.inl vout)))] sz)) (fun _ _ _ => False) 2 8196 (va_A [(a0, .inr (2, fs)), e1, e2, e3, e4, e5, (aO, .inl (cL, 1, .inr (.inl vout)))] sz) := by
  refine jlb_of (QQ := fun A => va_Qi (fun (q : Int32) (u : Nat → Int32) => q = 0 ∧ Val u) (fun u t => va_P D vwCl [g0, g1, g2, g3, g4, g5 u, (aO, .inl (cL, 1, .inr (.inl (vp_updL vout (0 : Int32).toNatClampNeg r.toInt64))))] t.heap ∧ va_K D vwCl [(cI, .int), (cM, .int), (cL, .long)] t ∧ va_D A [g0, g1, g2, g3, g4, g5 u, (aO, .inl (cL, 1, .inr (.inl (vp_updL vout (0 : Int32).toNatClampNeg r.toInt64))))]) A) (cc := cL_bestCard) (maxL := 3) (ret := (some .int)) (hh := [(0, 8, 11, 15)]) (by decide) rfl (Nat.le_of_ble_eq_true rfl) ?_
  intro p e s m below meth c ls A S hr hlocks htb hP hK hN hD hS hA hl
  obtain ⟨hx, hb, hml, hown, hts⟩ := id S
  have hl : lv_has ls 3 [(0, .ref a0), (1, .ref aO)] := hl
  refine lv_aload_n hx hb dL_bestCard_0 rfl (lv_at hl 1 rfl) ?_
  refine lv_iconst (v := 0) hx hb dL_bestCard_1 (by decide) ?_
  refine lv_aload_n hx hb dL_bestCard_2 rfl (lv_at hl 0 rfl) ?_
  refine jlb_call (mc := 0) (ms := 0) (rm := rX2_bestCard_S0) (wd := [(a0, .inr (2, fs)), e1, e2, e3, e4, e5]) (tys := [(cI, .int), (cM, .int)]) (B := fun A9 => (fun u t => va_P D vwCl [g0, g1, g2, g3, g4, g5 u] t.heap ∧ va_K D vwCl [(cI, .int), (cM, .int)] t ∧ va_D A9 [g0, g1, g2, g3, g4, g5 u])) (rest := [.int 0, .ref aO]) S hM gL_bestCard_X2_bestCard rfl (by decide +kernel) ⟨⟨rfl, rfl⟩, ⟨Nat.le_of_ble_eq_true rfl, Nat.le_of_ble_eq_true rfl⟩, Nat.le_of_ble_eq_true rfl, Nat.le_of_ble_eq_true rfl⟩ hP hK hN hD hS hA [0, 1, 2, 3, 4, 5] [0, 1] rfl rfl rfl rfl (lv_nil hl) (Nat.le_of_ble_eq_true rfl) dL_bestCard_3 (fun u t H1 locs1 ht hvm hu hB hFc hk1 hS1 => ?_)
  obtain ⟨hP1, hK1, hD1⟩ := hB
  rw [ht] at hP1
  obtain ⟨hP, hD⟩ := jw_join (wn := [g0, g1, g2, g3, g4, g5 u, (aO, .inl (cL, 1, .inr (.inl vout)))]) hP hD [0, 1, 2, 3, 4, 5] [6] [1, 2, 3, 4, 5, 6, 0] rfl (wr := [(aO, .inl (cL, 1, .inr (.inl vout)))]) rfl rfl (by decide) rfl rfl hk1 hFc hP1 hD1
  have hS := hS1
  refine lv_i2l (v := r.toInt64) hx hb dL_bestCard_6 rfl ?_
  refine va_last hx hb hK hP hD hS 6 2 rfl rfl (i := 0) (by unfold vp_in; decide) dL_bestCard_7 (fun H locs hP hD hS => ?_)
  have hP : va_P D vwCl [g0, g1, g2, g3, g4, g5 u, (aO, .inl (cL, 1, .inr (.inl (vp_updL vout (0 : Int32).toNatClampNeg r.toInt64))))] H := hP
  have hD : va_D A [g0, g1, g2, g3, g4, g5 u, (aO, .inl (cL, 1, .inr (.inl (vp_updL vout (0 : Int32).toNatClampNeg r.toInt64))))] := hD
  refine lv_goto (tgt := 14) hx hb dL_bestCard_8 (by decide) ?_
  refine lv_iconst (v := 0) hx hb dL_bestCard_14 (by decide) ?_
  exact W.widen (k := 2) (n := 8196) (Nat.le_of_ble_eq_true rfl) (Nat.le_of_ble_eq_true rfl) (vx_ret (W.iret hx hb hr (fun t ht hW => ⟨⟨0, u, rfl, ⟨rfl, hu⟩, by rw [ht]; exact hP, va_K.moved hW.alike hK, hD⟩, hS.F ht⟩) hS.2.2 dL_bestCard_15))
abbrev rL_bestCard_N : Room := { frames := 65, cells := 2, slots := 8196, locals := 2200 }
set_option maxRecDepth 100000 in
set_option maxHeartbeats 8000000 in
theorem l_L_bestCard_N {l : Launch} {D : va_G} {a0 aO : Nat} {fs : List Value} {e1 e2 e3 : Nat × va_E} {g0 : Nat → Nat × va_E} {g1 g2 g3 : Nat × va_E} {g4 : Nat → Nat → Nat × va_E} {g5 : Nat → ClassId → (Nat → Int32) → Nat × va_E} {cI cL : ClassId} {vout : Nat → Int64} {r : Int32} {Val : (Nat → Int32) → Prop}
    (hM : ∀ sz : Nat, Met l yX2_bestCard wsX2_bestCard rX2_bestCard_N (jPw D [.ref a0] [(a0, .inr (2, fs)), e1, e2, e3] [(cI, .int)] sz) (va_Qi (fun (q : Int32) (u : Nat → Int32) => q = r ∧ Val u) (fun u t => ∃ (aE aM : Nat) (cM : ClassId), va_P D vwCl [g0 aE, g1, g2, g3, g4 aE aM, g5 aM cM u] t.heap ∧ va_K D vwCl [(cI, .int), (cM, .int)] t ∧ va_D (va_A [(a0, .inr (2, fs)), e1, e2, e3] sz) [g0 aE, g1, g2, g3, g4 aE aM, g5 aM cM u]) (va_A [(a0, .inr (2, fs)), e1, e2, e3] sz)) 2 8196 (va_A [(a0, .inr (2, fs)), e1, e2, e3] sz)) :
    ∀ sz : Nat, vx_Met l yL_bestCard wsL_bestCard rL_bestCard_N (jPl D [.ref a0, .ref aO] [(a0, .inr (2, fs)), e1, e2, e3, (aO, .inl (cL, 1, .inr (.inl vout)))] [(cI, .int), (cL, .long)] sz) (va_Qi (fun (q : Int32) (u : Nat → Int32) => q = 0 ∧ Val u) (fun u t => ∃ (aE aM : Nat) (cM : ClassId), va_P D vwCl [g0 aE, g1, g2, g3, g4 aE aM, g5 aM cM u, (aO, .inl (cL, 1, .inr (.inl (vp_updL vout (0 : Int32).toNatClampNeg r.toInt64))))] t.heap ∧ va_K D vwCl [(cI, .int), (cM, .int), (cL, .long)] t ∧ va_D (va_A [(a0, .inr (2, fs)), e1, e2, e3, (aO, .inl (cL, 1, .inr (.inl vout)))] sz) [g0 aE, g1, g2, g3, g4 aE aM, g5 aM cM u, (aO, .inl (cL, 1, .inr (.inl (vp_updL vout (0 : Int32).toNatClampNeg r.toInt64))))]) (va_A [(a0, .inr (2, fs)), e1, e2, e3, (aO, .inl (cL, 1, .inr (.inl vout)))] sz)) (fun _ _ _ => False) 2 8196 (va_A [(a0, .inr (2, fs)), e1, e2, e3, (aO, .inl (cL, 1, .inr (.inl vout)))] sz) := by
  refine jlb_of (QQ := fun A => va_Qi (fun (q : Int32) (u : Nat → Int32) => q = 0 ∧ Val u) (fun u t => ∃ (aE aM : Nat) (cM : ClassId), va_P D vwCl [g0 aE, g1, g2, g3, g4 aE aM, g5 aM cM u, (aO, .inl (cL, 1, .inr (.inl (vp_updL vout (0 : Int32).toNatClampNeg r.toInt64))))] t.heap ∧ va_K D vwCl [(cI, .int), (cM, .int), (cL, .long)] t ∧ va_D A [g0 aE, g1, g2, g3, g4 aE aM, g5 aM cM u, (aO, .inl (cL, 1, .inr (.inl (vp_updL vout (0 : Int32).toNatClampNeg r.toInt64))))]) A) (cc := cL_bestCard) (maxL := 3) (ret := (some .int)) (hh := [(0, 8, 11, 15)]) (by decide) rfl (Nat.le_of_ble_eq_true rfl) ?_
  intro p e s m below meth c ls A S hr hlocks htb hP hK hN hD hS hA hl
  obtain ⟨hx, hb, hml, hown, hts⟩ := id S
  have hl : lv_has ls 3 [(0, .ref a0), (1, .ref aO)] := hl
  refine lv_aload_n hx hb dL_bestCard_0 rfl (lv_at hl 1 rfl) ?_
  refine lv_iconst (v := 0) hx hb dL_bestCard_1 (by decide) ?_
  refine lv_aload_n hx hb dL_bestCard_2 rfl (lv_at hl 0 rfl) ?_
  refine jlb_call (mc := 2) (ms := 8196) (rm := rX2_bestCard_N) (wd := [(a0, .inr (2, fs)), e1, e2, e3]) (tys := [(cI, .int)]) (B := fun A9 => (fun u t => ∃ (aE aM : Nat) (cM : ClassId), va_P D vwCl [g0 aE, g1, g2, g3, g4 aE aM, g5 aM cM u] t.heap ∧ va_K D vwCl [(cI, .int), (cM, .int)] t ∧ va_D A9 [g0 aE, g1, g2, g3, g4 aE aM, g5 aM cM u])) (rest := [.int 0, .ref aO]) S hM gL_bestCard_X2_bestCard rfl (by decide +kernel) ⟨⟨rfl, rfl⟩, ⟨Nat.le_of_ble_eq_true rfl, Nat.le_of_ble_eq_true rfl⟩, Nat.le_of_ble_eq_true rfl, Nat.le_of_ble_eq_true rfl⟩ hP hK hN hD hS hA [0, 1, 2, 3] [0] rfl rfl rfl rfl (lv_nil hl) (Nat.le_of_ble_eq_true rfl) dL_bestCard_3 (fun u t H1 locs1 ht hvm hu hB hFc hk1 hS1 => ?_)
  obtain ⟨aE, aM, cM, hP1, hK1, hD1⟩ := hB
  rw [ht] at hP1
  obtain ⟨hP, hD⟩ := jw_join (wn := [g0 aE, g1, g2, g3, g4 aE aM, g5 aM cM u, (aO, .inl (cL, 1, .inr (.inl vout)))]) hP hD [0, 1, 2, 3] [4] [1, 2, 3, 4, 5, 6, 0] rfl (wr := [(aO, .inl (cL, 1, .inr (.inl vout)))]) rfl rfl (by decide) rfl rfl hk1 hFc hP1 hD1
  have hK : va_K D vwCl [(cI, .int), (cM, .int), (cL, .long)] s := (va_K.moved hvm.symm hK1).app (hK.sub [1] rfl)
  have hS := hS1
  refine lv_i2l (v := r.toInt64) hx hb dL_bestCard_6 rfl ?_
  refine va_last hx hb hK hP hD hS 6 2 rfl rfl (i := 0) (by unfold vp_in; decide) dL_bestCard_7 (fun H locs hP hD hS => ?_)
  have hP : va_P D vwCl [g0 aE, g1, g2, g3, g4 aE aM, g5 aM cM u, (aO, .inl (cL, 1, .inr (.inl (vp_updL vout (0 : Int32).toNatClampNeg r.toInt64))))] H := hP
  have hD : va_D A [g0 aE, g1, g2, g3, g4 aE aM, g5 aM cM u, (aO, .inl (cL, 1, .inr (.inl (vp_updL vout (0 : Int32).toNatClampNeg r.toInt64))))] := hD
  refine lv_goto (tgt := 14) hx hb dL_bestCard_8 (by decide) ?_
  refine lv_iconst (v := 0) hx hb dL_bestCard_14 (by decide) ?_
  exact W.widen (k := 2) (n := 8196) (Nat.le_of_ble_eq_true rfl) (Nat.le_of_ble_eq_true rfl) (vx_ret (W.iret hx hb hr (fun t ht hW => ⟨⟨0, u, rfl, ⟨rfl, hu⟩, aE, aM, cM, by rw [ht]; exact hP, va_K.moved hW.alike hK, hD⟩, hS.F ht⟩) hS.2.2 dL_bestCard_15))
