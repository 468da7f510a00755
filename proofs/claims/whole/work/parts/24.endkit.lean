/-! METHODS THAT WRITE and answer an object -/
abbrev jQa (D : va_G) (a0 : Nat) (ws' : va_W) (tys : List (ClassId × FieldType)) (A : Nat → Prop) : Array Value → State → Outcome → State → Prop := va_Qr (fun (_ : Unit) => True) (fun _ a t => a = a0 ∧ va_P D vwCl ws' t.heap ∧ va_K D vwCl tys t ∧ va_D A ws') A
abbrev jWa (l : Launch) (y : MethodName) (wl : List Cond) (rm : Room) (D : va_G) (av : List Value) (ws : va_W) (tys : List (ClassId × FieldType)) (a0 : Nat) (ws' : va_W) : Prop := ∀ sz : Nat, Met l y wl rm (jPw D av ws tys sz) (jQa D a0 ws' tys (va_A ws sz)) 0 0 (va_A ws sz)
section JA9
variable {p : Program} {l : Launch} {e : Env} {R : Room} {s : State} {m : MethodId} {args : Array Value} {below : List Frame} {meth : Method} {c : Code} {H : Heap} {locs : List Loc} {cells slots : Nat} {Q : State → Prop}
variable {cc bytes : ByteArray} {pc index n : Nat} {ls : Array Slot} {rest st0 : List Value} {nL maxL : Nat} {Ts wl wl' : List Cond} {own C nm : String} {y : MethodName} {rm : Room} {ret : Option FieldType} {D : va_G} {As : List Value} {wd wb wr wn ws' : va_W} {tys tyb : List (ClassId × FieldType)} {b a0 : Nat} {A : Nat → Prop}
theorem jw_aret (hx : p.tables.exec = Jvm.exec) (hb : c.code = cc) (hr : meth.sig.returnType = some (.object nm)) (hlocks : meth.locks = false) (hK : va_K D vwCl tys s) (hP : va_P D vwCl wn H) (hD : va_D A wn) (hS : va_S A s.heap H locs) (hdg : decode cc pc = .ok (.areturn, 1)) (hw : wn = ws') : W p l e R s m args below meth c H locs cells slots (MQ below (jQa D a0 ws' tys A) args s cells slots A) (F0 m pc ls [.ref a0]) := by
  subst hw
  exact W.aret hx hb hr (Or.inl ⟨nm, rfl⟩) (Or.inr ⟨a0, rfl⟩) (fun t ht hW => ⟨⟨(), a0, rfl, trivial, rfl, by rw [ht]; exact hP, va_K.moved hW.alike hK, hD⟩, hS.F ht⟩) hS.2.2 hdg
theorem jw_callVa (S : CallFix p m c cc nL s args Ts own) (hM : jWa l y wl rm D (.ref b :: As) wd tys a0 ws') (hT : GoodIn Ts (wsV own index C y wl)) (hw : wl = Cond.code y bytes maxL ret :: wl') (hd : y.cls = C ∧ y.cls ≠ "java/lang/invoke/MethodHandle" ∧ y.cls ≠ "java/lang/invoke/VarHandle" ∧ (parseMethodDescriptor y.desc).map (fun d => d.parameters.length) = some n) (hn : As.length = n)
    (hR : (rm.cells = 0 ∧ rm.slots = 0) ∧ (rm.frames + 1 ≤ R.frames ∧ 8 + (maxL + 11) + rm.locals ≤ R.locals) ∧ cells ≤ R.cells ∧ slots ≤ R.slots) (hP : va_P D vwCl wb H) (hK : va_K D vwCl tyb s) (hN : jN s) (hD : va_D A wb) (hS : va_S A s.heap H locs) (hA : ∀ q : Nat, s.heap.size ≤ q → A q) (is ir pm ts : List Nat) (hi : is.map (fun i => wb[i]?) = wd.map some) (hir : ir.map (fun i => wb[i]?) = wr.map some) (hnd : va_nd is = true ∧ va_nd ir = true ∧ va_nd pm = true) (hdis : ∀ i ∈ ir, i ∉ is) (hpm : pm.map (fun i => (wr ++ ws')[i]?) = wn.map some) (ht : ts.filterMap (fun i => tyb[i]?) = tys)
    (q0 ci : Nat) {q : vw_C} {fs : List Value} (hc : vwCl[ci]? = some q) (hqC : q.1 = C) (he : wd[q0]? = some (b, .inr (ci, fs)))
    (hl : lv_has ls nL []) (hst : st0 = As.reverse ++ .ref b :: rest) (hW : (rest.map fun v => v.category).sum ≤ 8) (hdg : decode cc pc = .ok (.invokevirtual index, 3))
    (kk : ∀ (H1 : Heap) (locs1 : List Loc), va_P D vwCl wn H1 → va_D A wn → va_S A s.heap H1 locs1 → W p l e R s m args below meth c H1 locs1 cells slots Q (F0 m (pc + 3) ls (.ref a0 :: rest))) : W p l e R s m args below meth c H locs cells slots Q (F0 m pc ls st0) := by
  have hPc := hP.sub is (jx_fm hi)
  have hKc := hK.sub ts ht
  have hDc := hD.sub is hnd.1 hi
  have hFc := va_free (wc := wd) hD hS hA is hi
  subst hqC
  refine va_callr (va_runV (As := As) (rest := rest) S (hM H.size) (cwV n S.2.2.2.2 hT hw hR.1.1 hR.1.2 hd hR.2.1) ⟨jPw_blind, va_recv hKc hPc (ci := ci) (q0 := q0) hc he, fun U hU hW => ⟨rfl, by rw [hU], by rw [hU]; exact hPc, va_K.moved hW.alike hKc, jN.warm hW hN, hDc.weaken (fun _ _ _ _ => trivial)⟩⟩ rfl hn hl.1 hst (lv_room hW) hdg ⟨hR.2.2.1, hR.2.2.2⟩) hS (fun q _ h => hFc q h) hFc (fun u ra t H1 locs1 ht hvm hw hB hz1 hk1 hS1 => ?_)
  obtain ⟨hra, hP1, hK1, hD1⟩ := hB
  rw [ht] at hP1
  obtain ⟨hP2, hD2⟩ := jw_join hP hD is ir pm hi hir hnd.2.1 hdis hpm hnd.2.2 hk1 hFc hP1 hD1
  rw [hra]
  exact kk H1 locs1 hP2 hD2 hS1
theorem jn_iretF {v z : Int32} {Val : (Nat → Int32) → Prop} {wf : (Nat → Int32) → va_W} (u : Nat → Int32) (hx : p.tables.exec = Jvm.exec) (hb : c.code = cc) (hr : meth.sig.returnType = some .int) (hlocks : meth.locks = false) (hK : va_K D vwCl tys s) (hP : va_P D vwCl (wf u) H) (hD : va_D A (wf u)) (hS : va_S A s.heap H locs) (hdg : decode cc pc = .ok (.ireturn, 1)) (hu : Val u) (hv : v = z) : W p l e R s m args below meth c H locs cells slots (MQ below (jQn D z Val wf tys A) args s cells slots A) (F0 m pc ls [.int v]) := by
  subst hv
  exact W.iret hx hb hr (fun t ht hW => ⟨⟨v, u, rfl, ⟨rfl, hu⟩, by rw [ht]; exact hP, va_K.moved hW.alike hK, hD⟩, hS.F ht⟩) hS.2.2 hdg
/-- a call that may fill the table, in a larger world -/
theorem jn_callF {r : Int32} {Val : (Nat → Int32) → Prop} {aE aM : Nat} {cM : ClassId} {tab : Nat → Int32} {vfa vsa : Int64} {vtr : Int32} {wf : (Nat → Int32) → va_W} (S : CallFix p m c cc nL s args Ts own) (hM : jn_Met l y wl rm D (.ref aE :: As) aE aM cM tab vfa vsa vtr r Val) (hT : GoodIn Ts (wsV own index RX1 y wl)) (hw : wl = Cond.code y bytes maxL ret :: wl') (hd : y.cls = RX1 ∧ y.cls ≠ "java/lang/invoke/MethodHandle" ∧ y.cls ≠ "java/lang/invoke/VarHandle" ∧ (parseMethodDescriptor y.desc).map (fun d => d.parameters.length) = some n) (hn : As.length = n)
    (hR : (rm.cells = 0 ∧ rm.slots = 0) ∧ (rm.frames + 1 ≤ R.frames ∧ 8 + (maxL + 11) + rm.locals ≤ R.locals) ∧ cells ≤ R.cells ∧ slots ≤ R.slots) (hP : va_P D vwCl wb H) (hK : va_K D vwCl tyb s) (hN : jN s) (hD : va_D A wb) (hS : va_S A s.heap H locs) (hA : ∀ q : Nat, s.heap.size ≤ q → A q) (is ir pm ts : List Nat) (hi : is.map (fun i => wb[i]?) = (jE aE aM cM tab vfa vsa vtr).map some) (hir : ir.map (fun i => wb[i]?) = wr.map some) (hnd : va_nd is = true ∧ va_nd ir = true ∧ va_nd pm = true) (hdis : ∀ i ∈ ir, i ∉ is) (hpm : ∀ u : Nat → Int32, pm.map (fun i => (wr ++ jE aE aM cM u vfa vsa vtr)[i]?) = (wf u).map some) (ht : ts.filterMap (fun i => tyb[i]?) = [(cM, .int)])
    (hl : lv_has ls nL []) (hst : st0 = As.reverse ++ .ref aE :: rest) (hW : (rest.map fun v => v.category).sum ≤ 8) (hdg : decode cc pc = .ok (.invokevirtual index, 3))
    (kk : ∀ (u : Nat → Int32), Val u → ∀ (H1 : Heap) (locs1 : List Loc), va_P D vwCl (wf u) H1 → va_D A (wf u) → va_S A s.heap H1 locs1 → W p l e R s m args below meth c H1 locs1 cells slots Q (F0 m (pc + 3) ls (.int r :: rest))) : W p l e R s m args below meth c H locs cells slots Q (F0 m pc ls st0) := by
  have hPc := hP.sub is (jx_fm hi)
  have hKc := hK.sub ts ht
  have hDc := hD.sub is hnd.1 hi
  have hFc := va_free (wc := jE aE aM cM tab vfa vsa vtr) hD hS hA is hi
  refine va_calli (va_runV (As := As) (rest := rest) S (hM H.size) (cwV n S.2.2.2.2 hT hw hR.1.1 hR.1.2 hd hR.2.1) ⟨jPw_blind, va_recv hKc hPc (ci := 1) (q0 := 0) rfl rfl, fun U hU hW => ⟨rfl, by rw [hU], by rw [hU]; exact hPc, va_K.moved hW.alike hKc, jN.warm hW hN, hDc.weaken (fun _ _ _ _ => trivial)⟩⟩ rfl hn hl.1 hst (lv_room hW) hdg ⟨hR.2.2.1, hR.2.2.2⟩) hS (fun q _ h => hFc q h) hFc (fun r' u t H1 locs1 ht hvm hw hB hz1 hk1 hS1 => ?_)
  obtain ⟨hP1, hK1, hD1⟩ := hB
  rw [ht] at hP1
  obtain ⟨hP2, hD2⟩ := jw_join (wn := wf u) hP hD is ir pm hi hir hnd.2.1 hdis (hpm u) hnd.2.2 hk1 hFc hP1 hD1
  rw [hw.1]
  exact kk u hw.2 H1 locs1 hP2 hD2 hS1
end JA9
