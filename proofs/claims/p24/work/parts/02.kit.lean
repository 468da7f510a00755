/-! SHORT ROWS over the kit's: contracts of methods that read, of methods that write; their starts, calls and ends -/
def jN (U : State) : Prop := True ∧ True ∧ True ∧ True ∧ True ∧ True ∧ va_Nw (.methodLinkNest RX2 15 yX0_init RX2) U ∧ True
theorem jN.warm {s U : State} (hW : s.WarmedH U.vm) (h : jN s) : jN U := ⟨trivial, trivial, trivial, trivial, trivial, trivial, va_Nw.warmM hW h.2.2.2.2.2.2.1, trivial⟩
theorem jN.same {u U : State} (h : u.vm = U.vm) (g : jN u) : jN U := ⟨trivial, trivial, trivial, trivial, trivial, trivial, va_Nw.same rfl h g.2.2.2.2.2.2.1, trivial⟩
/-- the start of a method that reads -/
def jPr (D : va_G) (av : List Value) (ws : va_W) (tys : List (ClassId × FieldType)) : Array Value → State → Prop := va_Pc av (fun U => va_P D vwCl ws U.heap ∧ va_K D vwCl tys U ∧ jN U)
theorem jPr_blind {D : va_G} {av : List Value} {ws : va_W} {tys : List (ClassId × FieldType)} : FrameBlind (jPr D av ws tys) := fun a U g mk q => ⟨q.1, q.2.1, va_K.moved (u := U) (U := U.calling g mk a) (Vm.Alike.refl U.vm) q.2.2.1, jN.same (u := U) (U := U.calling g mk a) rfl q.2.2.2⟩
/-- a method that reads: its answer is r, no cell changes -/
abbrev jR (l : Launch) (y : MethodName) (wl : List Cond) (rm : Room) (D : va_G) (av : List Value) (ws : va_W) (tys : List (ClassId × FieldType)) (r : Value) : Prop := Met l y wl rm (jPr D av ws tys) (k2_QcV r) 0 0 (fun _ => False)
theorem jR_of {l : Launch} {y : MethodName} {wl ws' : List Cond} {rm : Room} {D : va_G} {av : List Value} {ws : va_W} {tys : List (ClassId × FieldType)} {r : Value} {cc : ByteArray} {maxL : Nat} {ret : Option FieldType}
    (hy : plainName y.cls = true) (hw : wl = Cond.code y cc maxL ret :: ws') (hn : (lg_sl av).length ≤ maxL)
    (body : ∀ (p : Program) (e : Env) (s : State) (m : MethodId) (below : List Frame) (meth : Method) (c : Code) (ls : Array Slot), CallFix p m c cc maxL s av.toArray wl y.cls → meth.sig.returnType = ret → meth.locks = false →
      va_P D vwCl ws s.heap → va_K D vwCl tys s → jN s → lv_has ls maxL (lv_args 0 av) →
      W p l e rm s m av.toArray below meth c s.heap [] 0 0 (MQ below (k2_QcV r) av.toArray s 0 0 (fun _ => False)) (F0 m 0 ls [])) : jR l y wl rm D av ws tys r := by
  refine Met.ofW (cc := cc) (maxL := maxL) (ret := ret) hy hw ?_
  intro p e s m args below meth c s₁ B hml hv
  obtain ⟨rfl, hP, hK, hN⟩ := hv
  have hts := atoms_spec (ws := wl) B.pre
  have hown : s.vm.findClass y.cls = some m.cls := findClass_of_methodNamed B.named
  have hl := lv_entry av (n := maxL) hn
  rw [lg_entry_eq]
  exact body p e s m below meth c _ ⟨B.exec, B.bytes, hml, hown, hts⟩ B.returns B.notSynchronized hP hK hN hl
section JR
variable {p : Program} {l : Launch} {e : Env} {R : Room} {s : State} {m : MethodId} {args : Array Value} {below : List Frame} {meth : Method} {c : Code} {H : Heap} {locs : List Loc} {cells slots : Nat} {Q : State → Prop}
variable {cc bytes : ByteArray} {pc index n : Nat} {ls : Array Slot} {rest st0 : List Value} {nL maxL : Nat} {Ts wl wl' : List Cond} {own C host : String} {y : MethodName} {rm : Room} {ret : Option FieldType} {D : va_G} {As : List Value} {wd wb : va_W} {tys tyb : List (ClassId × FieldType)} {r : Value} {b : Nat}
/-- a static method that reads is called -/
theorem jr_callS (S : CallFix p m c cc nL s args Ts own) (hM : jR l y wl rm D As wd tys r) (hT : GoodIn Ts (va_wsS own index y wl)) (hw : wl = Cond.code y bytes maxL ret :: wl') (hd : y.cls ≠ "java/lang/invoke/MethodHandle" ∧ y.cls ≠ "java/lang/invoke/VarHandle" ∧ (parseMethodDescriptor y.desc).map (fun d => d.parameters.length) = some n) (hn : As.length = n)
    (hR : (rm.cells = 0 ∧ rm.slots = 0) ∧ (rm.frames + 1 ≤ R.frames ∧ 8 + (maxL + 11) + rm.locals ≤ R.locals) ∧ cells ≤ R.cells ∧ slots ≤ R.slots) (hP : va_P D vwCl wb H) (hK : va_K D vwCl tyb s) (hN : jN s) (is ts : List Nat) (hi : is.filterMap (fun i => wb[i]?) = wd) (ht : ts.filterMap (fun i => tyb[i]?) = tys)
    (hl : lv_has ls nL []) (hst : st0 = As.reverse ++ rest) (hW : (rest.map fun v => v.category).sum ≤ 8) (hdg : decode cc pc = .ok (.invokestatic index, 3))
    (kk : W p l e R s m args below meth c H locs cells slots Q (F0 m (pc + 3) ls (r :: rest))) : W p l e R s m args below meth c H locs cells slots Q (F0 m pc ls st0) := by
  have hPc := hP.sub is hi
  have hKc := hK.sub ts ht
  exact W.callV (va_runS (As := As) (rest := rest) S hM (va_cwS n S.2.2.2.2 hT hw hR.1.1 hR.1.2 hd hR.2.1) ⟨jPr_blind, fun U hU hW => ⟨rfl, by rw [hU]; exact hPc, va_K.moved hW.alike hKc, jN.warm hW hN⟩⟩ rfl hn hl.1 hst (lv_room hW) hdg ⟨hR.2.2.1, hR.2.2.2⟩).run kk
/-- .. of a nest mate -/
theorem jr_callSN (S : CallFix p m c cc nL s args Ts own) (hM : jR l y wl rm D As wd tys r) (hT : GoodIn Ts wl) (hw : wl = Cond.code y bytes maxL ret :: wl') (hlk : va_Nw (.methodLinkNest own index y host) s) (hini : (Cond.initialized y.cls).before args s = true) (hsta : (Cond.static y).before args s = true) (hd : y.cls ≠ "java/lang/invoke/MethodHandle" ∧ y.cls ≠ "java/lang/invoke/VarHandle" ∧ (parseMethodDescriptor y.desc).map (fun d => d.parameters.length) = some n) (hn : As.length = n)
    (hR : (rm.cells = 0 ∧ rm.slots = 0) ∧ (rm.frames + 1 ≤ R.frames ∧ 8 + (maxL + 11) + rm.locals ≤ R.locals) ∧ cells ≤ R.cells ∧ slots ≤ R.slots) (hP : va_P D vwCl wb H) (hK : va_K D vwCl tyb s) (hN : jN s) (is ts : List Nat) (hi : is.filterMap (fun i => wb[i]?) = wd) (ht : ts.filterMap (fun i => tyb[i]?) = tys)
    (hl : lv_has ls nL []) (hst : st0 = As.reverse ++ rest) (hW : (rest.map fun v => v.category).sum ≤ 8) (hdg : decode cc pc = .ok (.invokestatic index, 3))
    (kk : W p l e R s m args below meth c H locs cells slots Q (F0 m (pc + 3) ls (r :: rest))) : W p l e R s m args below meth c H locs cells slots Q (F0 m pc ls st0) := by
  have hPc := hP.sub is hi
  have hKc := hK.sub ts ht
  exact W.callV (va_runSN (As := As) (rest := rest) S hM ⟨va_cnB n S.2.2.2.2 hT hw hR.1.1 hR.1.2 hlk hini hd hR.2.1, hsta, trivial⟩ ⟨jPr_blind, fun U hU hW => ⟨rfl, by rw [hU]; exact hPc, va_K.moved hW.alike hKc, jN.warm hW hN⟩⟩ rfl hn hl.1 hst (lv_room hW) hdg ⟨hR.2.2.1, hR.2.2.2⟩).run kk
/-- a method of an object that reads -/
theorem jr_callV (S : CallFix p m c cc nL s args Ts own) (hM : jR l y wl rm D (.ref b :: As) wd tys r) (hT : GoodIn Ts (wsV own index C y wl)) (hw : wl = Cond.code y bytes maxL ret :: wl') (hd : y.cls = C ∧ y.cls ≠ "java/lang/invoke/MethodHandle" ∧ y.cls ≠ "java/lang/invoke/VarHandle" ∧ (parseMethodDescriptor y.desc).map (fun d => d.parameters.length) = some n) (hn : As.length = n)
    (hR : (rm.cells = 0 ∧ rm.slots = 0) ∧ (rm.frames + 1 ≤ R.frames ∧ 8 + (maxL + 11) + rm.locals ≤ R.locals) ∧ cells ≤ R.cells ∧ slots ≤ R.slots) (hP : va_P D vwCl wb H) (hK : va_K D vwCl tyb s) (hN : jN s) (is ts : List Nat) (hi : is.filterMap (fun i => wb[i]?) = wd) (ht : ts.filterMap (fun i => tyb[i]?) = tys)
    (q0 ci : Nat) {q : vw_C} {fs : List Value} (hc : vwCl[ci]? = some q) (hqC : q.1 = C) (he : wd[q0]? = some (b, .inr (ci, fs)))
    (hl : lv_has ls nL []) (hst : st0 = As.reverse ++ .ref b :: rest) (hW : (rest.map fun v => v.category).sum ≤ 8) (hdg : decode cc pc = .ok (.invokevirtual index, 3))
    (kk : W p l e R s m args below meth c H locs cells slots Q (F0 m (pc + 3) ls (r :: rest))) : W p l e R s m args below meth c H locs cells slots Q (F0 m pc ls st0) := by
  have hPc := hP.sub is hi
  have hKc := hK.sub ts ht
  subst hqC
  exact W.callV (va_runV (As := As) (rest := rest) S hM (cwV n S.2.2.2.2 hT hw hR.1.1 hR.1.2 hd hR.2.1) ⟨jPr_blind, va_recv hKc hPc (ci := ci) (q0 := q0) hc he, fun U hU hW => ⟨rfl, by rw [hU]; exact hPc, va_K.moved hW.alike hKc, jN.warm hW hN⟩⟩ rfl hn hl.1 hst (lv_room hW) hdg ⟨hR.2.2.1, hR.2.2.2⟩).run kk
theorem lv_nil {lv : List (Nat × Value)} (h : lv_has ls nL lv) : lv_has ls nL [] := lv_sub h [] rfl
theorem jr_no {free : Addr → Prop} : ∀ q ∈ ([] : List Loc), free q.base := fun _ h => absurd h List.not_mem_nil
theorem jr_iret {v z : Int32} (hx : p.tables.exec = Jvm.exec) (hb : c.code = cc) (hr : meth.sig.returnType = some .int) (hlocks : meth.locks = false) (hdg : decode cc pc = .ok (.ireturn, 1)) (hv : v = z) : W p l e R s m args below meth c s.heap [] 0 0 (MQ below (k2_QcV (.int z)) args s 0 0 (fun _ => False)) (F0 m pc ls [.int v]) := by
  subst hv
  exact W.iret hx hb hr (fun t ht hW => ⟨rfl, ht⟩) jr_no hdg
theorem jr_zret {v z : Int32} (hx : p.tables.exec = Jvm.exec) (hb : c.code = cc) (hr : meth.sig.returnType = some .boolean) (hlocks : meth.locks = false) (hdg : decode cc pc = .ok (.ireturn, 1)) (hn : narrow .boolean (.int v) = .int v) (hv : v = z) : W p l e R s m args below meth c s.heap [] 0 0 (MQ below (k2_QcV (.int z)) args s 0 0 (fun _ => False)) (F0 m pc ls [.int v]) := by
  subst hv
  exact W.zret hx hb hr hn (fun t ht hW => ⟨rfl, ht⟩) jr_no hdg
theorem jr_lret {v z : Int64} (hx : p.tables.exec = Jvm.exec) (hb : c.code = cc) (hr : meth.sig.returnType = some .long) (hlocks : meth.locks = false) (hdg : decode cc pc = .ok (.lreturn, 1)) (hv : v = z) : W p l e R s m args below meth c s.heap [] 0 0 (MQ below (k2_QcV (.long z)) args s 0 0 (fun _ => False)) (F0 m pc ls [.long v]) := by
  subst hv
  exact W.lret hx hb hr (fun t ht hW => ⟨rfl, ht⟩) jr_no hdg
theorem jr_aret {v z : Nat} {nm : String} (hx : p.tables.exec = Jvm.exec) (hb : c.code = cc) (hr : meth.sig.returnType = some (.object nm)) (hlocks : meth.locks = false) (hdg : decode cc pc = .ok (.areturn, 1)) (hv : v = z) : W p l e R s m args below meth c s.heap [] 0 0 (MQ below (k2_QcV (.ref z)) args s 0 0 (fun _ => False)) (F0 m pc ls [.ref v]) := by
  subst hv
  exact W.aret hx hb hr (Or.inl ⟨nm, rfl⟩) (Or.inr ⟨v, rfl⟩) (fun t ht hW => ⟨rfl, ht⟩) jr_no hdg
theorem jr_ite {c0 : Prop} [Decidable c0] {a b z : Nat} (hz : z = if c0 then a else b) (kt : c0 → W p l e R s m args below meth c H locs cells slots Q (F0 m pc ls (.ref a :: rest))) (kf : ¬ c0 → W p l e R s m args below meth c H locs cells slots Q (F0 m pc ls (.ref b :: rest))) : W p l e R s m args below meth c H locs cells slots Q (F0 m pc ls (.ref z :: rest)) := by
  subst hz
  by_cases h : c0
  · rw [if_pos h]; exact kt h
  · rw [if_neg h]; exact kf h
theorem jr_iteT {c0 : Prop} [Decidable c0] {a b z : Nat} (h : c0) (hz : z = if c0 then a else b) (kt : W p l e R s m args below meth c H locs cells slots Q (F0 m pc ls (.ref a :: rest))) : W p l e R s m args below meth c H locs cells slots Q (F0 m pc ls (.ref z :: rest)) := by
  subst hz; rw [if_pos h]; exact kt
theorem jr_iteF {c0 : Prop} [Decidable c0] {a b z : Nat} (h : ¬ c0) (hz : z = if c0 then a else b) (kf : W p l e R s m args below meth c H locs cells slots Q (F0 m pc ls (.ref b :: rest))) : W p l e R s m args below meth c H locs cells slots Q (F0 m pc ls (.ref z :: rest)) := by
  subst hz; rw [if_neg h]; exact kf
end JR
theorem jx_in {x n : Int32} {N : Nat} (h0 : ¬ x < 0) (h1 : ¬ n ≤ x) (e : n = nI N) (hN : N < 2 ^ 31) : vp_in x N := by
  subst e
  rcases pk_ix x hN with h | h | ⟨j, hj, rfl⟩
  · exact absurd h h0
  · exact absurd h h1
  · exact vp_in_nI hj hN
theorem jx_held {a : Int32} (ha : a = 0 ∨ a = 1) {i : Nat} (hi : i < 6) : vp_in (6 * a + nI i) 12 := by
  rcases ha with rfl | rfl
  · rw [show (6 : Int32) * 0 + nI i = nI (0 + i) from by rw [← nI_add]; rfl]; exact vp_in_nI (by omega) (by decide)
  · rw [show (6 : Int32) * 1 + nI i = nI (6 + i) from by rw [← nI_add]; rfl]; exact vp_in_nI (by omega) (by decide)
theorem jx_flip {a : Int32} (ha : a = 0 ∨ a = 1) : 1 - a = 0 ∨ 1 - a = 1 := by
  rcases ha with rfl | rfl
  · exact Or.inr (by decide)
  · exact Or.inl (by decide)
theorem jx_heldv {a b : Int32} (ha : a = 0 ∨ a = 1) (hb : vp_in b 6) : vp_in (6 * a + b) 12 := by
  obtain ⟨i, hi, rfl⟩ := vp_in_of hb (by decide)
  exact jx_held ha hi
theorem jx_tab {a b d : Int32} (ha : a = 0 ∨ a = 1) (hb : vp_in b 64) (hd : vp_in d 64) : vp_in (4096 * a + (64 * b + d)) 8192 := by
  obtain ⟨i, hi, rfl⟩ := vp_in_of hb (by decide)
  obtain ⟨j, hj, rfl⟩ := vp_in_of hd (by decide)
  rcases ha with rfl | rfl
  · rw [show (4096 : Int32) * 0 + (64 * nI i + nI j) = nI (0 + (64 * i + j)) from by rw [← nI_add, ← nI_add, ← pk_mul]; rfl]; exact vp_in_nI (by omega) (by decide)
  · rw [show (4096 : Int32) * 1 + (64 * nI i + nI j) = nI (4096 + (64 * i + j)) from by rw [← nI_add, ← nI_add, ← pk_mul]; rfl]; exact vp_in_nI (by omega) (by decide)
theorem jx_and {a b : Int32} (ha : vp_in a 64) : vp_in (a &&& b) 64 := by
  obtain ⟨i, hi, rfl⟩ := vp_in_of ha (by decide)
  have e : nI i &&& b = nI ((nI i &&& b).toBitVec.toNat) := by
    apply Int32.toBitVec_inj.mp
    apply BitVec.eq_of_toNat_eq
    rw [pk_tn (BitVec.isLt _)]
  have h : (nI i &&& b).toBitVec.toNat ≤ i := by
    rw [Int32.toBitVec_and, BitVec.toNat_and, pk_tn (by omega)]
    exact Nat.and_le_left
  rw [e]
  exact vp_in_nI (by omega) (by decide)
theorem jx_ushr33 (a : Int64) : ∃ n : Nat, n < 2 ^ 31 ∧ (a.toUInt64 >>> ((33 : Int32).toInt64.toUInt64 &&& Int64.toUInt64 63)).toInt64 = lN n := by
  refine ⟨a.toUInt64.toNat / 2 ^ 33, ?_, ?_⟩
  · have := a.toUInt64.toNat_lt
    omega
  · have e : (33 : Int32).toInt64.toUInt64 &&& Int64.toUInt64 63 = 33 := by decide
    rw [e]
    apply Int64.toBitVec_inj.mp
    apply BitVec.eq_of_toNat_eq
    have h : (a.toUInt64 >>> (33 : UInt64)).toNat = a.toUInt64.toNat / 2 ^ 33 := by
      rw [UInt64.toNat_shiftRight, Nat.shiftRight_eq_div_pow]; rfl
    have hlt := a.toUInt64.toNat_lt
    show (a.toUInt64 >>> (33 : UInt64)).toNat = (lN (a.toUInt64.toNat / 2 ^ 33)).toBitVec.toNat
    rw [h]
    show _ = (Int64.ofNat _).toBitVec.toNat
    rw [Int64.toBitVec_ofNat', BitVec.toNat_ofNat]
    omega
theorem jx_k1 (i : Nat) (hi : i ≤ 100) : (nI i + 1).toInt64 = lN (i + 1) := by
  rw [nI_1, nI_l (by omega)]
theorem jx_ne {i : Nat} (hi : i + 1 ≤ 41) : ¬ (nI (i + 1) + 1).toInt64 = 0 := by
  rw [jx_k1 _ (by omega), show (0 : Int64) = lN 0 from rfl, lN_eq (by omega) (by omega)]
  omega
theorem jx_other {a : Int64} {i : Nat} (hi : i + 1 ≤ 41) : vp_in ((a.toUInt64 >>> ((33 : Int32).toInt64.toUInt64 &&& Int64.toUInt64 63)).toInt64 - (a.toUInt64 >>> ((33 : Int32).toInt64.toUInt64 &&& Int64.toUInt64 63)).toInt64 / (nI (i + 1) + 1).toInt64 * (nI (i + 1) + 1).toInt64).toInt32 42 := by
  obtain ⟨n, hn, e⟩ := jx_ushr33 a
  rw [e, jx_k1 _ (by omega), pk_lRem (by omega) (by omega) (by omega), lN_i]
  exact vp_in_nI (Nat.lt_of_lt_of_le (Nat.mod_lt _ (by omega)) (by omega)) (by decide)
/-! METHODS THAT WRITE -/
theorem jx_fm {α : Type} {f : Nat → Option α} {is : List Nat} {w : List α} (h : is.map f = w.map some) : is.filterMap f = w := by
  have e : is.filterMap f = (is.map f).filterMap id := by rw [List.filterMap_map]; rfl
  rw [e, h, List.filterMap_map]
  show w.filterMap (fun x => some x) = w
  exact List.filterMap_some
/-- the start of a method that writes -/
def jPw (D : va_G) (av : List Value) (ws : va_W) (tys : List (ClassId × FieldType)) (sz : Nat) : Array Value → State → Prop := va_Pc av (fun U => U.heap.size = sz ∧ va_P D vwCl ws U.heap ∧ va_K D vwCl tys U ∧ jN U ∧ va_D (fun _ => True) ws)
theorem jPw_blind {D : va_G} {av : List Value} {ws : va_W} {tys : List (ClassId × FieldType)} {sz : Nat} : FrameBlind (jPw D av ws tys sz) := fun a U g mk q => ⟨q.1, q.2.1, q.2.2.1, va_K.moved (u := U) (U := U.calling g mk a) (Vm.Alike.refl U.vm) q.2.2.2.1, jN.same (u := U) (U := U.calling g mk a) rfl q.2.2.2.2.1, q.2.2.2.2.2⟩
/-- the world behind it -/
def jB (D : va_G) (ws' : va_W) (tys : List (ClassId × FieldType)) (A : Nat → Prop) : Unit → State → Prop := fun _ t => va_P D vwCl ws' t.heap ∧ va_K D vwCl tys t ∧ va_D A ws'
abbrev jQi (D : va_G) (r : Int32) (ws' : va_W) (tys : List (ClassId × FieldType)) (A : Nat → Prop) : Array Value → State → Outcome → State → Prop := va_Qi (fun (q : Int32) (_ : Unit) => q = r) (jB D ws' tys A) A
abbrev jQv (D : va_G) (ws' : va_W) (tys : List (ClassId × FieldType)) (A : Nat → Prop) : Array Value → State → Outcome → State → Prop := va_Qv (fun (_ : Unit) => True) (jB D ws' tys A) A
/-- a method that writes: its answer is r, the world behind it ws' -/
abbrev jWi (l : Launch) (y : MethodName) (wl : List Cond) (rm : Room) (D : va_G) (av : List Value) (ws : va_W) (tys : List (ClassId × FieldType)) (r : Int32) (ws' : va_W) : Prop := ∀ sz : Nat, Met l y wl rm (jPw D av ws tys sz) (jQi D r ws' tys (va_A ws sz)) 0 0 (va_A ws sz)
abbrev jWv (l : Launch) (y : MethodName) (wl : List Cond) (rm : Room) (D : va_G) (av : List Value) (ws : va_W) (tys : List (ClassId × FieldType)) (ws' : va_W) : Prop := ∀ sz : Nat, Met l y wl rm (jPw D av ws tys sz) (jQv D ws' tys (va_A ws sz)) 0 0 (va_A ws sz)
/-- the start of any method that writes; QQ: its end, over A -/
theorem jW_of {l : Launch} {y : MethodName} {wl wl' : List Cond} {rm : Room} {D : va_G} {av : List Value} {ws : va_W} {tys : List (ClassId × FieldType)} {QQ : (Nat → Prop) → Array Value → State → Outcome → State → Prop} {cc : ByteArray} {maxL mc ms : Nat} {ret : Option FieldType}
    (hy : plainName y.cls = true) (hw : wl = Cond.code y cc maxL ret :: wl') (hn : (lg_sl av).length ≤ maxL)
    (body : ∀ (p : Program) (e : Env) (s : State) (m : MethodId) (below : List Frame) (meth : Method) (c : Code) (ls : Array Slot) (A : Nat → Prop), CallFix p m c cc maxL s av.toArray wl y.cls → meth.sig.returnType = ret → meth.locks = false → meth.name = y.name →
      va_P D vwCl ws s.heap → va_K D vwCl tys s → jN s → va_D A ws → va_S A s.heap s.heap [] → (∀ q : Nat, s.heap.size ≤ q → A q) → lv_has ls maxL (lv_args 0 av) →
      W p l e rm s m av.toArray below meth c s.heap [] 0 0 (MQ below (QQ A) av.toArray s mc ms A) (F0 m 0 ls [])) : ∀ sz : Nat, Met l y wl rm (jPw D av ws tys sz) (QQ (va_A ws sz)) mc ms (va_A ws sz) := by
  intro sz
  refine Met.ofW (cc := cc) (maxL := maxL) (ret := ret) hy hw ?_
  intro p e s m args below meth c s₁ B hml hv
  obtain ⟨rfl, hsz, hP, hK, hN, hD0⟩ := hv
  subst hsz
  have hts := atoms_spec (ws := wl) B.pre
  have hown : s.vm.findClass y.cls = some m.cls := findClass_of_methodNamed B.named
  have hl := lv_entry av (n := maxL) hn
  rw [lg_entry_eq]
  exact body p e s m below meth c _ (va_A ws s.heap.size) ⟨B.exec, B.bytes, hml, hown, hts⟩ B.returns B.notSynchronized (name_of_methodNamed B.named B.method).1 hP hK hN (hD0.self (sz := s.heap.size)) va_S.rf (fun q h => Or.inr h) hl
section JW
variable {p : Program} {l : Launch} {e : Env} {R : Room} {s : State} {m : MethodId} {args : Array Value} {below : List Frame} {meth : Method} {c : Code} {H : Heap} {locs : List Loc} {cells slots : Nat} {Q : State → Prop}
variable {cc bytes : ByteArray} {pc index n : Nat} {ls : Array Slot} {rest st0 : List Value} {nL maxL : Nat} {Ts wl wl' : List Cond} {own C host : String} {y : MethodName} {rm : Room} {ret : Option FieldType} {D : va_G} {As : List Value} {wd wb wr wn ws' : va_W} {tys tyb : List (ClassId × FieldType)} {b : Nat} {A : Nat → Prop}
theorem jw_iret {v z : Int32} (hx : p.tables.exec = Jvm.exec) (hb : c.code = cc) (hr : meth.sig.returnType = some .int) (hlocks : meth.locks = false) (hK : va_K D vwCl tys s) (hP : va_P D vwCl wn H) (hD : va_D A wn) (hS : va_S A s.heap H locs) (hdg : decode cc pc = .ok (.ireturn, 1)) (hv : v = z) (hw : wn = ws') : W p l e R s m args below meth c H locs cells slots (MQ below (jQi D z ws' tys A) args s cells slots A) (F0 m pc ls [.int v]) := by
  subst hv; subst hw
  exact W.iret hx hb hr (fun t ht hW => ⟨⟨v, (), rfl, rfl, by rw [ht]; exact hP, va_K.moved hW.alike hK, hD⟩, hS.F ht⟩) hS.2.2 hdg
theorem jw_vret (hx : p.tables.exec = Jvm.exec) (hb : c.code = cc) (hr : meth.sig.returnType = none) (hlocks : meth.locks = false) (hK : va_K D vwCl tys s) (hP : va_P D vwCl wn H) (hD : va_D A wn) (hS : va_S A s.heap H locs) (hdg : decode cc pc = .ok (.return_, 1)) (hw : wn = ws') : W p l e R s m args below meth c H locs cells slots (MQ below (jQv D ws' tys A) args s cells slots A) (F0 m pc ls []) := by
  subst hw
  exact W.vret hx hb hr (fun t ht hW => ⟨⟨(), rfl, trivial, by rw [ht]; exact hP, va_K.moved hW.alike hK, hD⟩, hS.F ht⟩) hS.2.2 hdg
/-- the joined world, in the order wanted -/
theorem jw_join {H1 : Heap} (hP : va_P D vwCl wb H) (hD : va_D A wb) (isC isR pm : List Nat) (hC : isC.map (fun i => wb[i]?) = wd.map some) (hR : isR.map (fun i => wb[i]?) = wr.map some) (hn : va_nd isR = true) (hdis : ∀ i ∈ isR, i ∉ isC) (hpm : pm.map (fun i => (wr ++ ws')[i]?) = wn.map some) (hnp : va_nd pm = true)
    (hk : ∀ q : Nat, q < H.size → ¬ va_A wd H.size q → H1[q]? = H[q]?) (hF : ∀ q, va_A wd H.size q → A q) (hP1 : va_P D vwCl ws' H1) (hD1 : va_D (va_A wd H.size) ws') : va_P D vwCl wn H1 ∧ va_D A wn := by
  obtain ⟨hP2, hD2⟩ := va_join (wr := wr) (w1 := ws') hP hD isC isR hC hR hn hdis hk hF hP1 hD1
  exact ⟨hP2.sub pm (jx_fm hpm), hD2.sub pm hnp hpm⟩
/-- a method of an object that writes, of no answer -/
theorem jw_callVv (S : CallFix p m c cc nL s args Ts own) (hM : jWv l y wl rm D (.ref b :: As) wd tys ws') (hT : GoodIn Ts (wsV own index C y wl)) (hw : wl = Cond.code y bytes maxL ret :: wl') (hd : y.cls = C ∧ y.cls ≠ "java/lang/invoke/MethodHandle" ∧ y.cls ≠ "java/lang/invoke/VarHandle" ∧ (parseMethodDescriptor y.desc).map (fun d => d.parameters.length) = some n) (hn : As.length = n)
    (hR : (rm.cells = 0 ∧ rm.slots = 0) ∧ (rm.frames + 1 ≤ R.frames ∧ 8 + (maxL + 11) + rm.locals ≤ R.locals) ∧ cells ≤ R.cells ∧ slots ≤ R.slots) (hP : va_P D vwCl wb H) (hK : va_K D vwCl tyb s) (hN : jN s) (hD : va_D A wb) (hS : va_S A s.heap H locs) (hA : ∀ q : Nat, s.heap.size ≤ q → A q) (is ir pm ts : List Nat) (hi : is.map (fun i => wb[i]?) = wd.map some) (hir : ir.map (fun i => wb[i]?) = wr.map some) (hnd : va_nd is = true ∧ va_nd ir = true ∧ va_nd pm = true) (hdis : ∀ i ∈ ir, i ∉ is) (hpm : pm.map (fun i => (wr ++ ws')[i]?) = wn.map some) (ht : ts.filterMap (fun i => tyb[i]?) = tys)
    (q0 ci : Nat) {q : vw_C} {fs : List Value} (hc : vwCl[ci]? = some q) (hqC : q.1 = C) (he : wd[q0]? = some (b, .inr (ci, fs)))
    (hl : lv_has ls nL []) (hst : st0 = As.reverse ++ .ref b :: rest) (hW : (rest.map fun v => v.category).sum ≤ 8) (hdg : decode cc pc = .ok (.invokevirtual index, 3))
    (kk : ∀ (H1 : Heap) (locs1 : List Loc), va_P D vwCl wn H1 → va_D A wn → va_S A s.heap H1 locs1 → W p l e R s m args below meth c H1 locs1 cells slots Q (F0 m (pc + 3) ls rest)) : W p l e R s m args below meth c H locs cells slots Q (F0 m pc ls st0) := by
  have hPc := hP.sub is (jx_fm hi)
  have hKc := hK.sub ts ht
  have hDc := hD.sub is hnd.1 hi
  have hFc := va_free (wc := wd) hD hS hA is hi
  subst hqC
  refine va_callv (va_runV (As := As) (rest := rest) S (hM H.size) (cwV n S.2.2.2.2 hT hw hR.1.1 hR.1.2 hd hR.2.1) ⟨jPw_blind, va_recv hKc hPc (ci := ci) (q0 := q0) hc he, fun U hU hW => ⟨rfl, by rw [hU], by rw [hU]; exact hPc, va_K.moved hW.alike hKc, jN.warm hW hN, hDc.weaken (fun _ _ _ _ => trivial)⟩⟩ rfl hn hl.1 hst (lv_room hW) hdg ⟨hR.2.2.1, hR.2.2.2⟩) hS (fun q _ h => hFc q h) hFc (fun u t H1 locs1 ht hvm hw hB hz1 hk1 hS1 => ?_)
  obtain ⟨hP1, hK1, hD1⟩ := hB
  rw [ht] at hP1
  obtain ⟨hP2, hD2⟩ := jw_join hP hD is ir pm hi hir hnd.2.1 hdis hpm hnd.2.2 hk1 hFc hP1 hD1
  exact kk H1 locs1 hP2 hD2 hS1
/-- a static method that writes -/
theorem jw_callSv (S : CallFix p m c cc nL s args Ts own) (hM : jWv l y wl rm D As wd tys ws') (hT : GoodIn Ts (va_wsS own index y wl)) (hw : wl = Cond.code y bytes maxL ret :: wl') (hd : y.cls ≠ "java/lang/invoke/MethodHandle" ∧ y.cls ≠ "java/lang/invoke/VarHandle" ∧ (parseMethodDescriptor y.desc).map (fun d => d.parameters.length) = some n) (hn : As.length = n)
    (hR : (rm.cells = 0 ∧ rm.slots = 0) ∧ (rm.frames + 1 ≤ R.frames ∧ 8 + (maxL + 11) + rm.locals ≤ R.locals) ∧ cells ≤ R.cells ∧ slots ≤ R.slots) (hP : va_P D vwCl wb H) (hK : va_K D vwCl tyb s) (hN : jN s) (hD : va_D A wb) (hS : va_S A s.heap H locs) (hA : ∀ q : Nat, s.heap.size ≤ q → A q) (is ir pm ts : List Nat) (hi : is.map (fun i => wb[i]?) = wd.map some) (hir : ir.map (fun i => wb[i]?) = wr.map some) (hnd : va_nd is = true ∧ va_nd ir = true ∧ va_nd pm = true) (hdis : ∀ i ∈ ir, i ∉ is) (hpm : pm.map (fun i => (wr ++ ws')[i]?) = wn.map some) (ht : ts.filterMap (fun i => tyb[i]?) = tys)
    (hl : lv_has ls nL []) (hst : st0 = As.reverse ++ rest) (hW : (rest.map fun v => v.category).sum ≤ 8) (hdg : decode cc pc = .ok (.invokestatic index, 3))
    (kk : ∀ (H1 : Heap) (locs1 : List Loc), va_P D vwCl wn H1 → va_D A wn → va_S A s.heap H1 locs1 → W p l e R s m args below meth c H1 locs1 cells slots Q (F0 m (pc + 3) ls rest)) : W p l e R s m args below meth c H locs cells slots Q (F0 m pc ls st0) := by
  have hPc := hP.sub is (jx_fm hi)
  have hKc := hK.sub ts ht
  have hDc := hD.sub is hnd.1 hi
  have hFc := va_free (wc := wd) hD hS hA is hi
  refine va_callv (va_runS (As := As) (rest := rest) S (hM H.size) (va_cwS n S.2.2.2.2 hT hw hR.1.1 hR.1.2 hd hR.2.1) ⟨jPw_blind, fun U hU hW => ⟨rfl, by rw [hU], by rw [hU]; exact hPc, va_K.moved hW.alike hKc, jN.warm hW hN, hDc.weaken (fun _ _ _ _ => trivial)⟩⟩ rfl hn hl.1 hst (lv_room hW) hdg ⟨hR.2.2.1, hR.2.2.2⟩) hS (fun q _ h => hFc q h) hFc (fun u t H1 locs1 ht hvm hw hB hz1 hk1 hS1 => ?_)
  obtain ⟨hP1, hK1, hD1⟩ := hB
  rw [ht] at hP1
  obtain ⟨hP2, hD2⟩ := jw_join hP hD is ir pm hi hir hnd.2.1 hdis hpm hnd.2.2 hk1 hFc hP1 hD1
  exact kk H1 locs1 hP2 hD2 hS1
/-- .. whose answer is an int -/
theorem jw_callVi {r : Int32} (S : CallFix p m c cc nL s args Ts own) (hM : jWi l y wl rm D (.ref b :: As) wd tys r ws') (hT : GoodIn Ts (wsV own index C y wl)) (hw : wl = Cond.code y bytes maxL ret :: wl') (hd : y.cls = C ∧ y.cls ≠ "java/lang/invoke/MethodHandle" ∧ y.cls ≠ "java/lang/invoke/VarHandle" ∧ (parseMethodDescriptor y.desc).map (fun d => d.parameters.length) = some n) (hn : As.length = n)
    (hR : (rm.cells = 0 ∧ rm.slots = 0) ∧ (rm.frames + 1 ≤ R.frames ∧ 8 + (maxL + 11) + rm.locals ≤ R.locals) ∧ cells ≤ R.cells ∧ slots ≤ R.slots) (hP : va_P D vwCl wb H) (hK : va_K D vwCl tyb s) (hN : jN s) (hD : va_D A wb) (hS : va_S A s.heap H locs) (hA : ∀ q : Nat, s.heap.size ≤ q → A q) (is ir pm ts : List Nat) (hi : is.map (fun i => wb[i]?) = wd.map some) (hir : ir.map (fun i => wb[i]?) = wr.map some) (hnd : va_nd is = true ∧ va_nd ir = true ∧ va_nd pm = true) (hdis : ∀ i ∈ ir, i ∉ is) (hpm : pm.map (fun i => (wr ++ ws')[i]?) = wn.map some) (ht : ts.filterMap (fun i => tyb[i]?) = tys)
    (q0 ci : Nat) {q : vw_C} {fs : List Value} (hc : vwCl[ci]? = some q) (hqC : q.1 = C) (he : wd[q0]? = some (b, .inr (ci, fs)))
    (hl : lv_has ls nL []) (hst : st0 = As.reverse ++ .ref b :: rest) (hW : (rest.map fun v => v.category).sum ≤ 8) (hdg : decode cc pc = .ok (.invokevirtual index, 3))
    (kk : ∀ (H1 : Heap) (locs1 : List Loc), va_P D vwCl wn H1 → va_D A wn → va_S A s.heap H1 locs1 → W p l e R s m args below meth c H1 locs1 cells slots Q (F0 m (pc + 3) ls (.int r :: rest))) : W p l e R s m args below meth c H locs cells slots Q (F0 m pc ls st0) := by
  have hPc := hP.sub is (jx_fm hi)
  have hKc := hK.sub ts ht
  have hDc := hD.sub is hnd.1 hi
  have hFc := va_free (wc := wd) hD hS hA is hi
  subst hqC
  refine va_calli (va_runV (As := As) (rest := rest) S (hM H.size) (cwV n S.2.2.2.2 hT hw hR.1.1 hR.1.2 hd hR.2.1) ⟨jPw_blind, va_recv hKc hPc (ci := ci) (q0 := q0) hc he, fun U hU hW => ⟨rfl, by rw [hU], by rw [hU]; exact hPc, va_K.moved hW.alike hKc, jN.warm hW hN, hDc.weaken (fun _ _ _ _ => trivial)⟩⟩ rfl hn hl.1 hst (lv_room hW) hdg ⟨hR.2.2.1, hR.2.2.2⟩) hS (fun q _ h => hFc q h) hFc (fun r' u t H1 locs1 ht hvm hw hB hz1 hk1 hS1 => ?_)
  obtain ⟨hP1, hK1, hD1⟩ := hB
  rw [ht] at hP1
  obtain ⟨hP2, hD2⟩ := jw_join hP hD is ir pm hi hir hnd.2.1 hdis hpm hnd.2.2 hk1 hFc hP1 hD1
  rw [hw]
  exact kk H1 locs1 hP2 hD2 hS1
end JW
abbrev jA (aF : Nat) (vh : Int64) (vt : Int64) (vp : Int32) (vk : Int32) (vg : Int32) : va_W := [(aF, .inr (0, [.long vh, .long vt, .int vp, .int vk, .int vg]))]
abbrev jC (a0 : Nat) (aR : Nat) (aF : Nat) (aG : Nat) (cI : ClassId) (vrow : Nat → Int32) (vdrawn : Int32) (vtr : Int32) (vled : Int32) (vmov : Int32) (vw1 : Int32) (vw2 : Int32) (veo : Option Nat) (veb : Int32) (vh1 : Int64) (vt1 : Int64) (vp1 : Int32) (vk1 : Int32) (vg1 : Int32) (vh2 : Int64) (vt2 : Int64) (vp2 : Int32) (vk2 : Int32) (vg2 : Int32) : va_W := [(a0, .inr (2, [.ref aR, .ref aF, .ref aG, .int vdrawn, .int vtr, .int vled, .int vmov, .int vw1, .int vw2, va_rf veo, .int veb])), (aF, .inr (0, [.long vh1, .long vt1, .int vp1, .int vk1, .int vg1])), (aG, .inr (0, [.long vh2, .long vt2, .int vp2, .int vk2, .int vg2])), (aR, .inl (cI, 42, .inl vrow))]
