/-! THROWS: what a throw needs of the start, contracts of methods that throw, the throw itself -/
def jStr : List (Nat × String) := [(73, "there is no such card"), (84, "the card cannot be played now"), (103, "there is no game, or it is over"), (108, "the gloves are on, or gone"), (115, "there is no such archivist"), (128, "there are not so many cards"), (139, "no card is led, or it is this one"), (148, "the pile is not empty, or no game is on")]
def jExc : List String := ["java/lang/IllegalArgumentException", "java/lang/IllegalStateException", "java/lang/IndexOutOfBoundsException"]
def jDec : List String := ["java/lang/RuntimeException", "java/lang/Exception", Bundle.tN]
/-- the two statics of Throwable, the classes castable to themselves, the texts' addresses -/
def jX (A : Nat → Prop) (U : State) (H : Heap) : Prop := vx_Zq Bundle.tN "UNASSIGNED_STACK" Bundle.steD A U H ∧ vx_Zq Bundle.tN "SUPPRESSED_SENTINEL" Bundle.listD A U H ∧ (∀ E ∈ jExc, va_Nw (.castable E E) U) ∧ (∀ Y ∈ jDec, va_Nw (.declares (Bundle.initS Y)) U) ∧ ∀ q ∈ jStr, ∃ a, vk_R RX2 q.1 q.2 a U
theorem jX.pass {s U : State} {H : Heap} {A B : Nat → Prop} {locs : List Loc} (h : jX A s s.heap) (hS : va_S A s.heap H locs) (hU : U.heap = H) (hW : s.WarmedH U.vm) (hBA : ∀ q, B q → A q) : jX B U U.heap := by
  obtain ⟨h1, h2, h3, h5, h4⟩ := h
  refine ⟨?_, ?_, fun E hE => va_Nw.warmC hW (h3 E hE), fun Y hY => va_Nw.warmD hW (h5 Y hY), fun q hq => ?_⟩
  · rw [hU]; exact ((h1.kept (fun a q1 q2 => hS.2.1 a q1 q2)).moved hW.alike).narrow hBA
  · rw [hU]; exact ((h2.kept (fun a q1 q2 => hS.2.1 a q1 q2)).moved hW.alike).narrow hBA
  · obtain ⟨a, ha⟩ := h4 q hq
    exact ⟨a, ha.warm hW⟩
theorem jX.same {u U : State} {A : Nat → Prop} {H : Heap} (hvm : u.vm = U.vm) (h : jX A u H) : jX A U H := by
  obtain ⟨h1, h2, h3, h5, h4⟩ := h
  have ha : u.vm.Alike U.vm := by rw [hvm]; exact Vm.Alike.refl U.vm
  exact ⟨h1.moved ha, h2.moved ha, fun E hE => va_Nw.same rfl hvm (h3 E hE), fun Y hY => va_Nw.same rfl hvm (h5 Y hY), fun q hq => (h4 q hq).elim fun a h => ⟨a, vk_R.same hvm.symm h⟩⟩
def jPx (D : va_G) (av : List Value) (ws : va_W) (tys : List (ClassId × FieldType)) (sz : Nat) : Array Value → State → Prop := va_Pc av (fun U => U.heap.size = sz ∧ va_P D vwCl ws U.heap ∧ va_K D vwCl tys U ∧ jN U ∧ va_D (fun _ => True) ws ∧ jX (va_A ws sz) U U.heap)
theorem jPx_blind {D : va_G} {av : List Value} {ws : va_W} {tys : List (ClassId × FieldType)} {sz : Nat} : FrameBlind (jPx D av ws tys sz) := fun a U g mk q => ⟨q.1, q.2.1, q.2.2.1, va_K.moved (u := U) (U := U.calling g mk a) (Vm.Alike.refl U.vm) q.2.2.2.1, jN.same (u := U) (U := U.calling g mk a) rfl q.2.2.2.2.1, q.2.2.2.2.2.1, jX.same (u := U) (U := U.calling g mk a) rfl q.2.2.2.2.2.2⟩
/-- behind a throw of E: the world is as it was -/
def jXC (D : va_G) (ws : va_W) (tys : List (ClassId × FieldType)) (E : String) (A : Nat → Prop) : String → State → State → Prop := vx_X (fun _ : Unit => True) (fun E' _ t => E' = E ∧ va_P D vwCl ws t.heap ∧ va_K D vwCl tys t ∧ va_D A ws) A
/-- no answer at all -/
abbrev jQF (A : Nat → Prop) : Array Value → State → Outcome → State → Prop := va_Qi (fun (_ : Int32) (_ : Unit) => False) (fun _ _ => True) A
/-- a method that throws E, and nothing else -/
abbrev jTh (l : Launch) (y : MethodName) (wl : List Cond) (rm : Room) (D : va_G) (av : List Value) (ws : va_W) (tys : List (ClassId × FieldType)) (E : String) : Prop := ∀ sz : Nat, vx_Met l y wl rm (jPx D av ws tys sz) (jQF (va_A ws sz)) (jXC D ws tys E (va_A ws sz)) 1 6 (va_A ws sz)
theorem jTh_of {l : Launch} {y : MethodName} {wl wl' : List Cond} {rm : Room} {D : va_G} {av : List Value} {ws : va_W} {tys : List (ClassId × FieldType)} {E : String} {cc : ByteArray} {maxL : Nat} {ret : Option FieldType}
    (hy : plainName y.cls = true) (hw : wl = Cond.code y cc maxL ret :: wl') (hn : (lg_sl av).length ≤ maxL)
    (body : ∀ (p : Program) (e : Env) (s : State) (m : MethodId) (below : List Frame) (meth : Method) (c : Code) (ls : Array Slot) (A : Nat → Prop), CallFix p m c cc maxL s av.toArray wl y.cls → meth.locks = false → (∀ x ∈ c.exceptionTable.toList, False) →
      va_P D vwCl ws s.heap → va_K D vwCl tys s → jN s → va_D A ws → (∀ q : Nat, s.heap.size ≤ q → A q) → jX A s s.heap → lv_has ls maxL (lv_args 0 av) →
      W p l e rm s m av.toArray below meth c s.heap [] 0 0 (vx_MQ below (jQF A) (jXC D ws tys E A) av.toArray s 1 6 A) (F0 m 0 ls [])) : jTh l y wl rm D av ws tys E := by
  intro sz
  refine vx_ofW (cc := cc) (maxL := maxL) (ret := ret) hy hw ?_
  intro p e s m args below meth c s₁ B hml hnx hv
  obtain ⟨rfl, hsz, hP, hK, hN, hD0, hX⟩ := hv
  subst hsz
  have hts := atoms_spec (ws := wl) B.pre
  have hown : s.vm.findClass y.cls = some m.cls := findClass_of_methodNamed B.named
  have hl := lv_entry av (n := maxL) hn
  rw [lg_entry_eq]
  exact body p e s m below meth c _ (va_A ws s.heap.size) ⟨B.exec, B.bytes, hml, hown, hts⟩ B.notSynchronized hnx hP hK hN (hD0.self (sz := s.heap.size)) (fun q h => Or.inr h) hX hl
abbrev jNm : List String := ["java/lang/RuntimeException", "java/lang/Exception"]
theorem jt_throw {p : Program} {l : Launch} {e : Env} {R : Room} {s : State} {m : MethodId} {args : Array Value} {below : List Frame} {meth : Method} {c : Code} {cc : ByteArray} {pc : Nat} {ls : Array Slot} {rest : List Value} {nL : Nat} {Ts : List Cond} {D : va_G} {ws : va_W} {tys : List (ClassId × FieldType)} {A : Nat → Prop} {E text : String} {ik is ic : Nat}
    (hl : l.stackTraces = false) (S : CallFix p m c cc nL s args Ts RX2) (hlocks : meth.locks = false) (hnx : ∀ x ∈ c.exceptionTable.toList, False) (hP : va_P D vwCl ws s.heap) (hK : va_K D vwCl tys s) (hD : va_D A ws) (hX : jX A s s.heap) (hls : ls.size = nL)
    (hE : E ∈ jExc) (hs : (is, text) ∈ jStr) (hfit : Bundle.fit E = true) (hk : Cond.classLink RX2 ik E ∈ Ts) (hini : Cond.initialized E ∈ Ts) (hgw : ∀ w ∈ (vx_atS RX2 ic E jNm).filter goodWord, w ∈ Ts) (hbad : ∀ w ∈ (vx_atS RX2 ic E jNm).filter (fun w => !goodWord w), w ∈ [Cond.castable E E, Cond.declares (Bundle.initS "java/lang/RuntimeException"), Cond.declares (Bundle.initS "java/lang/Exception"), Cond.declares (Bundle.initS Bundle.tN)])
    (hgood : ∀ w ∈ Cond.classLink RX2 ik E :: Cond.initialized E :: vx_atS RX2 ic E jNm, vx_ot w = true)
    (d0 : decode cc pc = .ok (.new ik, 3)) (d3 : decode cc (pc + 3) = .ok (.dup, 1)) (d4 : decode cc (pc + 4) = .ok (.ldc is, 2)) (d6 : decode cc (pc + 6) = .ok (.invokespecial ic, 3)) (d9 : decode cc (pc + 9) = .ok (.athrow, 1))
    (hR : jNm.length + 3 < R.frames ∧ (rest.map fun v => v.category).sum + (13 * (jNm.length + 1) + 43) ≤ R.locals ∧ 0 + 1 ≤ R.cells ∧ 0 + 6 ≤ R.slots) :
    W p l e R s m args below meth c s.heap [] 0 0 (vx_MQ below (jQF A) (jXC D ws tys E A) args s 1 6 A) (F0 m pc ls rest) := by
  obtain ⟨hx, hb, hml, hown, hts⟩ := S
  obtain ⟨hU, hN9, hca, hde, hst⟩ := hX
  obtain ⟨sa, hsa⟩ := hst (is, text) hs
  exact vx_throwS (names := jNm) hx hb hl hown hfit (by decide +kernel) (hts _ hk) (hts _ hini) hsa (vx_hat (fun w h => hts w (hgw w h)) hbad (vx_c (va_Nw.use rfl (hca E hE)) (vx_c (va_Nw.use rfl (hde _ (by simp [jDec]))) (vx_c (va_Nw.use rfl (hde _ (by simp [jDec]))) (vx_c (va_Nw.use rfl (hde _ (by simp [jDec]))) vx_n))))) hgood hU hN9 va_S.rf (hls.trans hml.symm) d0 d3 d4 d6 d9 (fun x hx => (hnx x hx).elim) hR.1 hR.2.1 hR.2.2.1 hR.2.2.2 hlocks (fun t hal hsz hq => ⟨(), trivial, ⟨rfl, fun k q hk => (hP k q hk).kept (hq q.1 (hP k q hk).lt), va_K.moved hal hK, hD⟩, ⟨hsz, fun q h1 _ => hq q h1⟩⟩) (fun z h => absurd h List.not_mem_nil) (Nat.le_refl _) (Nat.le_refl _)
