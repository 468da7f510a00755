/-! THE LAW'S OWN METHODS: they catch what the class throws -/
def jPl (D : va_G) (av : List Value) (ws : va_W) (tys : List (ClassId × FieldType)) (sz : Nat) : Array Value → State → Prop := va_Pc av (fun U => U.heap.size = sz ∧ va_P D vwCl ws U.heap ∧ va_K D vwCl tys U ∧ jN U ∧ va_D (fun _ => True) ws ∧ jX (va_A ws sz) U U.heap ∧ va_Nc "java/lang/IllegalStateException" "java/lang/IllegalArgumentException" U)
theorem jPl_blind {D : va_G} {av : List Value} {ws : va_W} {tys : List (ClassId × FieldType)} {sz : Nat} : FrameBlind (jPl D av ws tys sz) := fun a U g mk q => ⟨q.1, q.2.1, q.2.2.1, va_K.moved (u := U) (U := U.calling g mk a) (Vm.Alike.refl U.vm) q.2.2.2.1, jN.same (u := U) (U := U.calling g mk a) rfl q.2.2.2.2.1, q.2.2.2.2.2.1, jX.same (u := U) (U := U.calling g mk a) rfl q.2.2.2.2.2.2.1, va_Nc.moved (u := U) (U := U.calling g mk a) (Vm.Alike.refl U.vm) q.2.2.2.2.2.2.2⟩
/-- a method of the law's: its answer is r, the world behind it ws', nothing is thrown -/
abbrev jL (l : Launch) (y : MethodName) (wl : List Cond) (rm : Room) (D : va_G) (av : List Value) (ws : va_W) (tys : List (ClassId × FieldType)) (r : Int32) (ws' : va_W) : Prop := ∀ sz : Nat, vx_Met l y wl rm (jPl D av ws tys sz) (jQi D r ws' tys (va_A ws sz)) (fun _ _ _ => False) 1 6 (va_A ws sz)
theorem jL_of {l : Launch} {y : MethodName} {wl wl' : List Cond} {rm : Room} {D : va_G} {av : List Value} {ws ws' : va_W} {tys : List (ClassId × FieldType)} {r : Int32} {cc : ByteArray} {maxL : Nat} {ret : Option FieldType} {hh : List (Nat × Nat × Nat × Nat)}
    (hy : plainName y.cls = true) (hw : wl = Cond.codeWith y cc maxL ret hh :: wl') (hn : (lg_sl av).length ≤ maxL)
    (body : ∀ (p : Program) (e : Env) (s : State) (m : MethodId) (below : List Frame) (meth : Method) (c : Code) (ls : Array Slot) (A : Nat → Prop), CallFix p m c cc maxL s av.toArray wl y.cls → meth.sig.returnType = ret → meth.locks = false → c.exceptionTable.toList = tableOf hh →
      va_P D vwCl ws s.heap → va_K D vwCl tys s → jN s → va_D A ws → va_S A s.heap s.heap [] → (∀ q : Nat, s.heap.size ≤ q → A q) → jX A s s.heap → va_Nc "java/lang/IllegalStateException" "java/lang/IllegalArgumentException" s → lv_has ls maxL (lv_args 0 av) →
      W p l e rm s m av.toArray below meth c s.heap [] 0 0 (vx_MQ below (jQi D r ws' tys A) (fun _ _ _ => False) av.toArray s 1 6 A) (F0 m 0 ls [])) : jL l y wl rm D av ws tys r ws' := by
  intro sz
  refine vx_ofWH (cc := cc) (maxL := maxL) (ret := ret) (hh := hh) hy hw ?_
  intro p e s m args below meth c s₁ B hml hv
  obtain ⟨rfl, hsz, hP, hK, hN, hD0, hX, hY⟩ := hv
  subst hsz
  have hts := atoms_spec (ws := wl) B.pre
  have htb : c.exceptionTable.toList = tableOf hh := vx_table (x := y) B (hts _ (by rw [hw]; exact List.mem_cons_self))
  have hown : s.vm.findClass y.cls = some m.cls := findClass_of_methodNamed B.named
  have hl := lv_entry av (n := maxL) hn
  rw [lg_entry_eq]
  exact body p e s m below meth c _ (va_A ws s.heap.size) ⟨B.exec, B.bytes, hml, hown, hts⟩ B.returns B.notSynchronized htb hP hK hN (hD0.self (sz := s.heap.size)) va_S.rf (fun q h => Or.inr h) hX hY hl
section JL
variable {p : Program} {l : Launch} {e : Env} {R : Room} {s : State} {m : MethodId} {args : Array Value} {below : List Frame} {meth : Method} {c : Code} {H : Heap} {locs : List Loc} {cells slots : Nat} {Q : State → Prop}
variable {cc bytes : ByteArray} {pc index n : Nat} {ls : Array Slot} {rest st0 : List Value} {nL maxL : Nat} {Ts wl wl' : List Cond} {own C E : String} {y : MethodName} {rm : Room} {ret : Option FieldType} {D : va_G} {As : List Value} {wd wb wr wn : va_W} {tys tyb : List (ClassId × FieldType)} {b : Nat} {A : Nat → Prop}
/-- a method of an object that throws, as a hypothesis tells -/
theorem jl_callT (S : CallFix p m c cc nL s args Ts own) (hM : jTh l y wl rm D (.ref b :: As) wd tys E) (hT : GoodIn Ts (wsV own index C y wl)) (hw : wl = Cond.code y bytes maxL ret :: wl') (hd : y.cls = C ∧ y.cls ≠ "java/lang/invoke/MethodHandle" ∧ y.cls ≠ "java/lang/invoke/VarHandle" ∧ (parseMethodDescriptor y.desc).map (fun d => d.parameters.length) = some n) (hn : As.length = n)
    (hR : (rm.cells = 1 ∧ rm.slots = 6) ∧ (rm.frames + 1 ≤ R.frames ∧ 8 + (maxL + 11) + rm.locals ≤ R.locals) ∧ cells + 1 ≤ R.cells ∧ slots + 6 ≤ R.slots) (hP : va_P D vwCl wb H) (hK : va_K D vwCl tyb s) (hN : jN s) (hX : jX A s s.heap) (hD : va_D A wb) (hS : va_S A s.heap H locs) (hA : ∀ q : Nat, s.heap.size ≤ q → A q) (is ir pm ts : List Nat) (hi : is.map (fun i => wb[i]?) = wd.map some) (hir : ir.map (fun i => wb[i]?) = wr.map some) (hnd : va_nd is = true ∧ va_nd ir = true ∧ va_nd pm = true) (hdis : ∀ i ∈ ir, i ∉ is) (hpm : pm.map (fun i => (wr ++ wd)[i]?) = wn.map some) (ht : ts.filterMap (fun i => tyb[i]?) = tys)
    (q0 ci : Nat) {q : vw_C} {fs : List Value} (hc : vwCl[ci]? = some q) (hqC : q.1 = C) (he : wd[q0]? = some (b, .inr (ci, fs)))
    (hl : lv_has ls nL []) (hst : st0 = As.reverse ++ .ref b :: rest) (hW : (rest.map fun v => v.category).sum ≤ 8) (hdg : decode cc pc = .ok (.invokevirtual index, 3))
    (kx : ∀ (ce : Cell) (q9 : Addr) (H1 : Heap) (locs1 : List Loc), va_P D vwCl wn H1 → va_D A wn → va_S A s.heap H1 locs1 → H1[q9]? = some ce → ce.vm = .none → s.vm.findClass E = some ce.cls → vx_W p l e R s m args below meth c H1 locs1 (cells + 1) (slots + 6) Q (F0 m pc ls rest) q9) : W p l e R s m args below meth c H locs cells slots Q (F0 m pc ls st0) := by
  have hPc := hP.sub is (jx_fm hi)
  have hKc := hK.sub ts ht
  have hDc := hD.sub is hnd.1 hi
  have hFc := va_free (wc := wd) hD hS hA is hi
  subst hqC
  refine vx_calli (vx_runV (As := As) (rest := rest) S (hM H.size) (cwV n S.2.2.2.2 hT hw hR.1.1 hR.1.2 hd hR.2.1) ⟨jPx_blind, va_recv hKc hPc (ci := ci) (q0 := q0) hc he, fun U hU hW => ⟨rfl, by rw [hU], by rw [hU]; exact hPc, va_K.moved hW.alike hKc, jN.warm hW hN, hDc.weaken (fun _ _ _ _ => trivial), hX.pass hS hU hW hFc⟩⟩ rfl hn hl.1 hst (lv_room hW) hdg ⟨hR.2.2.1, hR.2.2.2⟩) hS (fun q _ h => hFc q h) hFc (fun q _ h => hFc q h) (fun E' ce q9 u t H1 locs1 ht hvm hp hB hz1 hk1 hS1 hce hcv hcl => ?_) (fun r u t H1 locs1 ht hvm hp hB hz1 hk1 hS1 => hp.elim)
  obtain ⟨hEE, hP1, hK1, hD1⟩ := hB
  subst hEE
  rw [ht] at hP1
  obtain ⟨hP2, hD2⟩ := jw_join hP hD is ir pm hi hir hnd.2.1 hdis hpm hnd.2.2 hk1 hFc hP1 hD1
  exact kx ce q9 H1 locs1 hP2 hD2 hS1 hce hcv hcl
end JL
theorem jl_ret0 {p : Program} {l : Launch} {e : Env} {R : Room} {s : State} {m : MethodId} {args : Array Value} {below : List Frame} {meth : Method} {c : Code} {H : Heap} {locs : List Loc} {cc : ByteArray} {pc : Nat} {ls : Array Slot} {D : va_G} {wn ws' : va_W} {tys : List (ClassId × FieldType)} {A : Nat → Prop} {v z : Int32} (hx : p.tables.exec = Jvm.exec) (hb : c.code = cc) (hr : meth.sig.returnType = some .int) (hlocks : meth.locks = false) (hK : va_K D vwCl tys s) (hP : va_P D vwCl wn H) (hD : va_D A wn) (hS : va_S A s.heap H locs) (hdg : decode cc pc = .ok (.ireturn, 1)) (hv : v = z) (hw : wn = ws') : W p l e R s m args below meth c H locs 0 0 (vx_MQ below (jQi D z ws' tys A) (fun _ _ _ => False) args s 1 6 A) (F0 m pc ls [.int v]) :=
  W.widen (k := 1) (n := 6) (by omega) (by omega) (vx_ret (jw_iret hx hb hr hlocks hK hP hD hS hdg hv hw))
