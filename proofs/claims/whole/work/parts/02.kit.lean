/-! SHORT ROWS over the kit's: contracts of methods that read, of methods that write; their starts, calls and ends -/
def jN (U : State) : Prop := va_Nw (.methodLinkNest RX1 50 yX2_bit RX2) U ∧ va_Nw (.methodLinkNest RX1 56 yX2_beats RX2) U ∧ va_Nw (.methodLinkNest RX1 72 yX2_has RX2) U ∧ va_Nw (.methodLinkNest RX1 76 yX2_reasonAgainstLeading RX2) U ∧ va_Nw (.methodLinkNest RX1 80 yX2_reasonAgainstReplying RX2) U ∧ va_Nw (.methodLinkNest RX1 88 yX2_worth RX2) U ∧ va_Nw (.methodLinkNest RX2 15 yX0_init RX2) U ∧ va_Nw (.methodLinkNest RX2 210 yX1_init RX2) U
theorem jN.warm {s U : State} (hW : s.WarmedH U.vm) (h : jN s) : jN U := ⟨va_Nw.warmM hW h.1, va_Nw.warmM hW h.2.1, va_Nw.warmM hW h.2.2.1, va_Nw.warmM hW h.2.2.2.1, va_Nw.warmM hW h.2.2.2.2.1, va_Nw.warmM hW h.2.2.2.2.2.1, va_Nw.warmM hW h.2.2.2.2.2.2.1, va_Nw.warmM hW h.2.2.2.2.2.2.2⟩
theorem jN.same {u U : State} (h : u.vm = U.vm) (g : jN u) : jN U := ⟨va_Nw.same rfl h g.1, va_Nw.same rfl h g.2.1, va_Nw.same rfl h g.2.2.1, va_Nw.same rfl h g.2.2.2.1, va_Nw.same rfl h g.2.2.2.2.1, va_Nw.same rfl h g.2.2.2.2.2.1, va_Nw.same rfl h g.2.2.2.2.2.2.1, va_Nw.same rfl h g.2.2.2.2.2.2.2⟩
/-- the start of a method that reads -/
def jPr (D : va_G) (av : List Value) (ws : va_W) (tys : List (ClassId × FieldType)) : Array Value → State → Prop := va_Pc av (fun U => va_P D vwCl ws U.heap ∧ va_K D vwCl tys U ∧ jN U)
theorem jPr_blind {D : va_G} {av : List Value} {ws : va_W} {tys : List (ClassId × FieldType)} : FrameBlind (jPr D av ws tys) := fun a U g mk q => ⟨q.1, q.2.1, va_K.moved (u := U) (U := U.calling g mk a) (Vm.Alike.refl U.vm) q.2.2.1, jN.same (u := U) (U := U.calling g mk a) rfl q.2.2.2⟩
/-- a method that reads: its answer is r, no cell changes -/
abbrev jR (l : Launch) (y : MethodName) (wl : List Cond) (rm : Room) (D : va_G) (av : List Value) (ws : va_W) (tys : List (ClassId × FieldType)) (r : Value) : Prop := Met l y wl rm (jPr D av ws tys) (k2_QcV r) 0 0 (fun _ => False)
/-- a sub-world, by places -/
theorem jP_sub {D : va_G} {cl : List vw_C} {ws wd : va_W} {H : Heap} (hP : va_P D cl ws H) (is : List Nat) (h : is.map (fun i => ws[i]?) = wd.map some) : va_P D cl wd H := hP.sub is h
theorem jR_of {l : Launch} {y : MethodName} {wl ws' : List Cond} {rm : Room} {D : va_G} {av : List Value} {ws : va_W} {tys : List (ClassId × FieldType)} {r : Value} {cc : ByteArray} {maxL : Nat} {ret : Option FieldType}
    (hy : plainName y.cls = true) (hw : wl = Cond.code y cc maxL ret :: ws') (hn : (lv_args 0 av).length ≤ maxL ∧ (lg_sl av).length ≤ maxL)
    (body : ∀ (p : Program) (e : Env) (s : State) (m : MethodId) (below : List Frame) (meth : Method) (c : Code) (ls : Array Slot), CallFix p m c cc maxL s av.toArray wl y.cls → meth.sig.returnType = ret → meth.locks = false →
      va_P D vwCl ws s.heap → va_K D vwCl tys s → jN s → lv_has ls maxL (lv_args 0 av) →
      W p l e rm s m av.toArray below meth c s.heap [] 0 0 (MQ below (k2_QcV r) av.toArray s 0 0 (fun _ => False)) (F0 m 0 ls [])) : jR l y wl rm D av ws tys r := by
  refine Met.ofW (cc := cc) (maxL := maxL) (ret := ret) hy hw ?_
  intro p e s m args below meth c s₁ B hml hv
  obtain ⟨rfl, hP, hK, hN⟩ := hv
  have hts := atoms_spec (ws := wl) B.pre
  have hown : s.vm.findClass y.cls = some m.cls := findClass_of_methodNamed B.named
  have hl := lv_entry av (n := maxL) hn.2
  rw [lg_entry_eq]
  exact body p e s m below meth c _ ⟨B.exec, B.bytes, hml, hown, hts⟩ B.returns B.notSynchronized hP hK hN hl
section JR
variable {p : Program} {l : Launch} {e : Env} {R : Room} {s : State} {m : MethodId} {args : Array Value} {below : List Frame} {meth : Method} {c : Code} {H : Heap} {locs : List Loc} {cells slots : Nat} {Q : State → Prop}
variable {cc bytes : ByteArray} {pc index : Nat} {ls : Array Slot} {rest st0 : List Value} {nL maxL : Nat} {Ts wl wl' : List Cond} {own C host : String} {y : MethodName} {rm : Room} {ret : Option FieldType} {D : va_G} {As : List Value} {wd wb : va_W} {tys tyb : List (ClassId × FieldType)} {r : Value} {b : Nat}
/-- a static method that reads is called -/
theorem jr_callS (S : CallFix p m c cc nL s args Ts own) (hM : jR l y wl rm D As wd tys r) (hT : GoodIn Ts (va_wsS own index y wl)) (hw : wl = Cond.code y bytes maxL ret :: wl') (hd : y.cls ≠ "java/lang/invoke/MethodHandle" ∧ y.cls ≠ "java/lang/invoke/VarHandle" ∧ (parseMethodDescriptor y.desc).map (fun d => d.parameters.length) = some As.length)
    (hR : (rm.cells = 0 ∧ rm.slots = 0) ∧ (rm.frames + 1 ≤ R.frames ∧ 8 + (maxL + 11) + rm.locals ≤ R.locals) ∧ cells ≤ R.cells ∧ slots ≤ R.slots) (hP : va_P D vwCl wb H) (hK : va_K D vwCl tyb s) (hN : jN s) (is ts : List Nat) (hi : is.map (fun i => wb[i]?) = wd.map some) (ht : ts.map (fun i => tyb[i]?) = tys.map some)
    (hl : lv_has ls nL []) (hst : st0 = As.reverse ++ rest) (hW : (rest.map fun v => v.category).sum ≤ 8) (hdg : decode cc pc = .ok (.invokestatic index, 3))
    (kk : W p l e R s m args below meth c H locs cells slots Q (F0 m (pc + 3) ls (r :: rest))) : W p l e R s m args below meth c H locs cells slots Q (F0 m pc ls st0) := by
  have hPc := hP.sub is hi
  have hKc := hK.sub ts ht
  exact W.callV (va_runS (As := As) (rest := rest) S hM (va_cwS As.length S.2.2.2.2 hT hw hR.1.1 hR.1.2 hd hR.2.1) ⟨jPr_blind, fun U hU hW => ⟨rfl, by rw [hU]; exact hPc, va_K.moved hW.alike hKc, jN.warm hW hN⟩⟩ rfl rfl hl.1 hst (lv_room hW) hdg ⟨hR.2.2.1, hR.2.2.2⟩).run kk
/-- .. of a nest mate -/
theorem jr_callSN (S : CallFix p m c cc nL s args Ts own) (hM : jR l y wl rm D As wd tys r) (hT : GoodIn Ts wl) (hw : wl = Cond.code y bytes maxL ret :: wl') (hlk : va_Nw (.methodLinkNest own index y host) s) (hini : (Cond.initialized y.cls).before args s = true) (hsta : (Cond.static y).before args s = true) (hd : y.cls ≠ "java/lang/invoke/MethodHandle" ∧ y.cls ≠ "java/lang/invoke/VarHandle" ∧ (parseMethodDescriptor y.desc).map (fun d => d.parameters.length) = some As.length)
    (hR : (rm.cells = 0 ∧ rm.slots = 0) ∧ (rm.frames + 1 ≤ R.frames ∧ 8 + (maxL + 11) + rm.locals ≤ R.locals) ∧ cells ≤ R.cells ∧ slots ≤ R.slots) (hP : va_P D vwCl wb H) (hK : va_K D vwCl tyb s) (hN : jN s) (is ts : List Nat) (hi : is.map (fun i => wb[i]?) = wd.map some) (ht : ts.map (fun i => tyb[i]?) = tys.map some)
    (hl : lv_has ls nL []) (hst : st0 = As.reverse ++ rest) (hW : (rest.map fun v => v.category).sum ≤ 8) (hdg : decode cc pc = .ok (.invokestatic index, 3))
    (kk : W p l e R s m args below meth c H locs cells slots Q (F0 m (pc + 3) ls (r :: rest))) : W p l e R s m args below meth c H locs cells slots Q (F0 m pc ls st0) := by
  have hPc := hP.sub is hi
  have hKc := hK.sub ts ht
  exact W.callV (va_runSN (As := As) (rest := rest) S hM ⟨va_cnB As.length S.2.2.2.2 hT hw hR.1.1 hR.1.2 hlk hini hd hR.2.1, hsta, trivial⟩ ⟨jPr_blind, fun U hU hW => ⟨rfl, by rw [hU]; exact hPc, va_K.moved hW.alike hKc, jN.warm hW hN⟩⟩ rfl rfl hl.1 hst (lv_room hW) hdg ⟨hR.2.2.1, hR.2.2.2⟩).run kk
/-- a method of an object that reads -/
theorem jr_callV (S : CallFix p m c cc nL s args Ts own) (hM : jR l y wl rm D (.ref b :: As) wd tys r) (hT : GoodIn Ts (wsV own index C y wl)) (hw : wl = Cond.code y bytes maxL ret :: wl') (hd : y.cls = C ∧ y.cls ≠ "java/lang/invoke/MethodHandle" ∧ y.cls ≠ "java/lang/invoke/VarHandle" ∧ (parseMethodDescriptor y.desc).map (fun d => d.parameters.length) = some As.length)
    (hR : (rm.cells = 0 ∧ rm.slots = 0) ∧ (rm.frames + 1 ≤ R.frames ∧ 8 + (maxL + 11) + rm.locals ≤ R.locals) ∧ cells ≤ R.cells ∧ slots ≤ R.slots) (hP : va_P D vwCl wb H) (hK : va_K D vwCl tyb s) (hN : jN s) (is ts : List Nat) (hi : is.map (fun i => wb[i]?) = wd.map some) (ht : ts.map (fun i => tyb[i]?) = tys.map some)
    (q0 ci : Nat) {q : vw_C} {fs : List Value} (hc : vwCl[ci]? = some q) (hqC : q.1 = C) (he : wd[q0]? = some (b, .inr (ci, fs)))
    (hl : lv_has ls nL []) (hst : st0 = As.reverse ++ .ref b :: rest) (hW : (rest.map fun v => v.category).sum ≤ 8) (hdg : decode cc pc = .ok (.invokevirtual index, 3))
    (kk : W p l e R s m args below meth c H locs cells slots Q (F0 m (pc + 3) ls (r :: rest))) : W p l e R s m args below meth c H locs cells slots Q (F0 m pc ls st0) := by
  have hPc := hP.sub is hi
  have hKc := hK.sub ts ht
  subst hqC
  exact W.callV (va_runV (As := As) (rest := rest) S hM (cwV As.length S.2.2.2.2 hT hw hR.1.1 hR.1.2 hd hR.2.1) ⟨jPr_blind, va_recv hKc hPc (ci := ci) (q0 := q0) hc he, fun U hU hW => ⟨rfl, by rw [hU]; exact hPc, va_K.moved hW.alike hKc, jN.warm hW hN⟩⟩ rfl rfl hl.1 hst (lv_room hW) hdg ⟨hR.2.2.1, hR.2.2.2⟩).run kk
theorem lv_nil {lv : List (Nat × Value)} (h : lv_has ls nL lv) : lv_has ls nL [] := lv_sub h [] rfl
theorem jr_no {free : Addr → Prop} : ∀ q ∈ ([] : List Loc), free q.base := fun _ h => absurd h List.not_mem_nil
theorem jr_iret {v z : Int32} (hx : p.tables.exec = Jvm.exec) (hb : c.code = cc) (hr : meth.sig.returnType = some .int) (hlocks : meth.locks = false) (hdg : decode cc pc = .ok (.ireturn, 1)) (hv : v = z) : W p l e R s m args below meth c s.heap [] 0 0 (MQ below (k2_QcV (.int z)) args s 0 0 (fun _ => False)) (F0 m pc ls [.int v]) := by
  subst hv
  exact W.iret hx hb hr (fun t ht hW => ⟨rfl, ht⟩) jr_no hdg
theorem jr_zret {v z : Int32} (hx : p.tables.exec = Jvm.exec) (hb : c.code = cc) (hr : meth.sig.returnType = some .boolean) (hlocks : meth.locks = false) (hdg : decode cc pc = .ok (.ireturn, 1)) (hn : narrow .boolean (.int v) = .int v) (hv : v = z) : W p l e R s m args below meth c s.heap [] 0 0 (MQ below (k2_QcV (.int z)) args s 0 0 (fun _ => False)) (F0 m pc ls [.int v]) := by
  subst hv
  exact W.zret hx hb hr hn (fun t ht hW => ⟨rfl, ht⟩) jr_no hdg
theorem jr_lret {v z : Int64} (hx : p.tables.exec = Jvm.exec) (hb : c.code = cc) (hr : meth.sig.returnType = some .long) (hlocks : meth.locks = false) (hdg : decode cc pc = .ok (.lreturn, 1)) (hv : v = z) : W p l e R s m args below meth c s.heap [] 0 0 (MQ below (k2_QcV (.long z)) args s 0 0 (fun _ => False)) (F0 m pc ls [.long v]) := by
  subst hv
  exact W.lret hx hb hr (fun t ht hW => ⟨rfl, ht⟩) jr_no hdg
theorem jr_aret {v z : Nat} {nm : String} (hx : p.tables.exec = Jvm.exec) (hb : c.code = cc) (hr : meth.sig.returnType = some (.object nm)) (hlocks : meth.locks = false) (hdg : decode cc pc = .ok (.areturn, 1)) (hv : v = z) : W p l e R s m args below meth c s.heap [] 0 0 (MQ below (k2_QcV (.ref z)) args s 0 0 (fun _ => False)) (F0 m pc ls [.ref v]) := by
  subst hv
  exact W.aret hx hb hr (Or.inl ⟨nm, rfl⟩) (Or.inr ⟨v, rfl⟩) (fun t ht hW => ⟨rfl, ht⟩) jr_no hdg
theorem jr_ite {c0 : Prop} [Decidable c0] {a b z : Nat} (hz : z = if c0 then a else b) (kt : c0 → W p l e R s m args below meth c H locs cells slots Q (F0 m pc ls (.ref a :: rest))) (kf : ¬ c0 → W p l e R s m args below meth c H locs cells slots Q (F0 m pc ls (.ref b :: rest))) : W p l e R s m args below meth c H locs cells slots Q (F0 m pc ls (.ref z :: rest)) := by
  subst hz
  by_cases h : c0
  · rw [if_pos h]; exact kt h
  · rw [if_neg h]; exact kf h
theorem jr_iteT {c0 : Prop} [Decidable c0] {a b z : Nat} (h : c0) (hz : z = if c0 then a else b) (kt : W p l e R s m args below meth c H locs cells slots Q (F0 m pc ls (.ref a :: rest))) : W p l e R s m args below meth c H locs cells slots Q (F0 m pc ls (.ref z :: rest)) := by
  subst hz; rw [if_pos h]; exact kt
theorem jr_iteF {c0 : Prop} [Decidable c0] {a b z : Nat} (h : ¬ c0) (hz : z = if c0 then a else b) (kf : W p l e R s m args below meth c H locs cells slots Q (F0 m pc ls (.ref b :: rest))) : W p l e R s m args below meth c H locs cells slots Q (F0 m pc ls (.ref z :: rest)) := by
  subst hz; rw [if_neg h]; exact kf
end JR
theorem jx_held {a : Int32} (ha : a = 0 ∨ a = 1) {i : Nat} (hi : i < 6) : vp_in (6 * a + nI i) 12 := by
  rcases ha with rfl | rfl
  · rw [show (6 : Int32) * 0 + nI i = nI (0 + i) from by rw [← nI_add]; rfl]; exact vp_in_nI (by omega) (by decide)
  · rw [show (6 : Int32) * 1 + nI i = nI (6 + i) from by rw [← nI_add]; rfl]; exact vp_in_nI (by omega) (by decide)
abbrev jC (a0 : Nat) (aR : Nat) (aF : Nat) (aG : Nat) (cI : ClassId) (vrow : Nat → Int32) (vdrawn : Int32) (vtr : Int32) (vled : Int32) (vmov : Int32) (vw1 : Int32) (vw2 : Int32) (veo : Option Nat) (veb : Int32) (vh1 : Int64) (vt1 : Int64) (vp1 : Int32) (vk1 : Int32) (vg1 : Int32) (vh2 : Int64) (vt2 : Int64) (vp2 : Int32) (vk2 : Int32) (vg2 : Int32) : va_W := [(a0, .inr (2, [.ref aR, .ref aF, .ref aG, .int vdrawn, .int vtr, .int vled, .int vmov, .int vw1, .int vw2, va_rf veo, .int veb])), (aF, .inr (0, [.long vh1, .long vt1, .int vp1, .int vk1, .int vg1])), (aG, .inr (0, [.long vh2, .long vt2, .int vp2, .int vk2, .int vg2])), (aR, .inl (cI, 42, .inl vrow))]
abbrev jE (aE : Nat) (aM : Nat) (cM : ClassId) (vtab : Nat → Int32) (vfa : Int64) (vsa : Int64) (vtr : Int32) : va_W := [(aE, .inr (1, [.ref aM, .long vfa, .long vsa, .int vtr])), (aM, .inl (cM, 8192, .inl vtab))]
abbrev jM (b0 : Nat) (bP : Nat) (bR : Nat) (bS : Nat) (bT : Nat) (bG : Nat) (bW : Nat) (bH : Nat) (bO : Nat) (cP : ClassId) (cR : ClassId) (cS : ClassId) (cT : ClassId) (cG : ClassId) (cW : ClassId) (cH : ClassId) (cO : ClassId) (uplace : Nat → Int32) (urow : Nat → Int32) (upts : Nat → Int32) (utks : Nat → Int32) (uglv : Nat → Int32) (uwin : Nat → Int32) (uheld : Nat → Int32) (utab : Nat → Int32) (udrawn : Int32) (udealt : Int32) (uon : Int32) (uturn : Int32) (uled : Int32) (utr : Int32) (uthr : Int32) : va_W := [(b0, .inr (3, [.ref bP, .ref bR, .int udrawn, .int udealt, .int uon, .int uturn, .int uled, .int utr, .ref bS, .ref bT, .ref bG, .ref bW, .int uthr, .ref bH, .ref bO])), (bP, .inl (cP, 42, .inl uplace)), (bR, .inl (cR, 42, .inl urow)), (bS, .inl (cS, 2, .inl upts)), (bT, .inl (cT, 2, .inl utks)), (bG, .inl (cG, 2, .inl uglv)), (bW, .inl (cW, 2, .inl uwin)), (bH, .inl (cH, 12, .inl uheld)), (bO, .inl (cO, 8192, .inl utab))]
