/-! THE LAW'S BODY: calls in a frame, and the shapes of its cases -/
theorem zy_Pm {D : va_G} {w : va_W} {H : Heap} : va_P D vwCl w H ↔ ∀ q ∈ w, va_at D vwCl q H := by
  constructor
  · intro h q hq
    obtain ⟨i, hi⟩ := List.getElem?_of_mem hq
    exact h i q hi
  · intro h k q hk
    exact h q (List.mem_of_getElem? hk)
theorem zy_Pa {D : va_G} {x y : va_W} {H : Heap} : va_P D vwCl (x ++ y) H ↔ va_P D vwCl x H ∧ va_P D vwCl y H := by
  rw [zy_Pm, zy_Pm, zy_Pm]
  constructor
  · intro h
    exact ⟨fun q hq => h q (List.mem_append_left _ hq), fun q hq => h q (List.mem_append_right _ hq)⟩
  · rintro ⟨h1, h2⟩ q hq
    rcases List.mem_append.mp hq with h | h
    · exact h1 q h
    · exact h2 q h
theorem zy_Dm {A : Nat → Prop} {w : va_W} : va_D A w ↔ (w.map Prod.fst).Nodup ∧ ∀ q ∈ w, A q.1 := by
  constructor
  · rintro ⟨h1, h2⟩
    refine ⟨?_, fun q hq => ?_⟩
    · rw [List.nodup_iff_pairwise_ne, List.pairwise_iff_getElem]
      intro i j hi hj hij
      rw [List.length_map] at hi hj
      rw [List.getElem_map, List.getElem_map]
      intro e
      have := h1 i j w[i] w[j] (List.getElem?_eq_getElem hi) (List.getElem?_eq_getElem hj) e
      omega
    · obtain ⟨i, hi⟩ := List.getElem?_of_mem hq
      exact h2 i q hi
  · rintro ⟨h1, h2⟩
    refine ⟨fun i j p q hi hj e => ?_, fun k q hk => h2 q (List.mem_of_getElem? hk)⟩
    rw [List.nodup_iff_pairwise_ne, List.pairwise_iff_getElem] at h1
    obtain ⟨hi1, hi2⟩ := List.getElem?_eq_some_iff.mp hi
    obtain ⟨hj1, hj2⟩ := List.getElem?_eq_some_iff.mp hj
    rcases Nat.lt_trichotomy i j with l | l | l
    · have := h1 i j (by rw [List.length_map]; exact hi1) (by rw [List.length_map]; exact hj1) l
      rw [List.getElem_map, List.getElem_map, hi2, hj2] at this
      exact absurd e this
    · exact l
    · have := h1 j i (by rw [List.length_map]; exact hj1) (by rw [List.length_map]; exact hi1) l
      rw [List.getElem_map, List.getElem_map, hi2, hj2] at this
      exact absurd e.symm this
theorem zy_Dp {A : Nat → Prop} {w w' : va_W} (h : va_D A w) (p : w.Perm w') : va_D A w' := by
  rw [zy_Dm] at h ⊢
  exact ⟨(p.map Prod.fst).nodup_iff.mp h.1, fun q hq => h.2 q (p.mem_iff.mpr hq)⟩
theorem zy_Da {A : Nat → Prop} {x y : va_W} : va_D A (x ++ y) ↔ va_D A x ∧ va_D A y ∧ ∀ p ∈ x, ∀ q ∈ y, ¬ p.1 = q.1 := by
  rw [zy_Dm, zy_Dm, zy_Dm, List.map_append, List.nodup_append]
  constructor
  · rintro ⟨⟨h1, h2, h3⟩, h4⟩
    exact ⟨⟨h1, fun q hq => h4 q (List.mem_append_left _ hq)⟩, ⟨h2, fun q hq => h4 q (List.mem_append_right _ hq)⟩, fun p hp q hq => h3 p.1 (List.mem_map_of_mem hp) q.1 (List.mem_map_of_mem hq)⟩
  · rintro ⟨⟨h1, h2⟩, ⟨h3, h4⟩, h5⟩
    refine ⟨⟨h1, h3, fun a ha b hb => ?_⟩, fun q hq => (List.mem_append.mp hq).elim (h2 q) (h4 q)⟩
    obtain ⟨p, hp, e1⟩ := List.mem_map.mp ha
    obtain ⟨q, hq, e2⟩ := List.mem_map.mp hb
    intro e
    exact h5 p hp q hq (by rw [e1, e2]; exact e)
/-- the callee's cells are wc, the rest is wr -/
theorem zy_free {A : Nat → Prop} {wc wr : va_W} {H0 H : Heap} {locs : List Loc} (hD : va_D A (wc ++ wr)) (hS : va_S A H0 H locs) (hA : ∀ q, H0.size ≤ q → A q) : ∀ q, va_A wc H.size q → A q := by
  intro q h
  rcases h with ⟨k, e, h⟩ | h
  · exact (zy_Dm.mp (zy_Da.mp hD).1).2 (q, e) (List.mem_of_getElem? h)
  · exact hA q (Nat.le_trans hS.1 h)
theorem zy_join {A : Nat → Prop} {D : va_G} {wc wr : va_W} {H H1 : Heap} (hD : va_D A (wc ++ wr)) (hr : va_P D vwCl wr H) (hk : ∀ q : Nat, q < H.size → ¬ va_A wc H.size q → H1[q]? = H[q]?) (hF : ∀ q, va_A wc H.size q → A q) : va_P D vwCl wr H1 ∧ ∀ w1, va_D (va_A wc H.size) w1 → va_D A (w1 ++ wr) := by
  obtain ⟨d1, d2, d3⟩ := zy_Da.mp hD
  have apart : ∀ q ∈ wr, q.1 < H.size ∧ ¬ va_A wc H.size q.1 := by
    intro q hq
    have lt := (zy_Pm.mp hr q hq).lt
    refine ⟨lt, ?_⟩
    rintro (⟨k, e, h⟩ | h)
    · exact d3 (q.1, e) (List.mem_of_getElem? h) q hq rfl
    · omega
  refine ⟨zy_Pm.mpr (fun q hq => (zy_Pm.mp hr q hq).kept (hk q.1 (apart q hq).1 (apart q hq).2)), fun w1 h1 => zy_Da.mpr ⟨h1.weaken (fun k q _ h => hF q.1 h), d2, fun p hp q hq e => ?_⟩⟩
  have := (zy_Dm.mp h1).2 p hp
  rw [e] at this
  exact (apart q hq).2 this
section ZY
variable {p : Program} {l : Launch} {e : Env} {R : Room} {s : State} {m : MethodId} {args : Array Value} {below : List Frame} {meth : Method} {c : Code} {H : Heap} {locs : List Loc} {cells slots : Nat} {Q : State → Prop}
variable {cc bytes : ByteArray} {pc index n : Nat} {ls : Array Slot} {rest st0 : List Value} {nL maxL mc ms : Nat} {Ts wl wl' : List Cond} {own C : String} {y : MethodName} {rm : Room} {ret : Option FieldType} {hh : List (Nat × Nat × Nat × Nat)} {D : va_G} {As : List Value} {wc wc' wr : va_W} {tys : List (ClassId × FieldType)} {A : Nat → Prop} {b : Nat}
/-- a static method of the law's that catches -/
theorem zy_callL {Z : Type} {post : Int32 → Z → Prop} {B : (Nat → Prop) → Z → State → Prop} (S : CallFix p m c cc nL s args Ts own) (hM : ∀ sz : Nat, vx_Met l y wl rm (jPl D As wc tys sz) (va_Qi post (B (va_A wc sz)) (va_A wc sz)) (fun _ _ _ => False) mc ms (va_A wc sz)) (hT : GoodIn Ts (va_wsS own index y wl)) (hw : wl = Cond.codeWith y bytes maxL ret hh :: wl') (hd : y.cls ≠ "java/lang/invoke/MethodHandle" ∧ y.cls ≠ "java/lang/invoke/VarHandle" ∧ (parseMethodDescriptor y.desc).map (fun d => d.parameters.length) = some n) (hn : As.length = n)
    (hR : (rm.cells = mc ∧ rm.slots = ms) ∧ (rm.frames + 1 ≤ R.frames ∧ 8 + (maxL + 11) + rm.locals ≤ R.locals) ∧ cells + mc ≤ R.cells ∧ slots + ms ≤ R.slots) (hPc : va_P D vwCl wc H) (hPr : va_P D vwCl wr H) (hK : va_K D vwCl tys s) (hN : jN s) (hX : jX A s s.heap) (hY : va_Nc "java/lang/IllegalStateException" "java/lang/IllegalArgumentException" s) (hD : va_D A (wc ++ wr)) (hS : va_S A s.heap H locs) (hA : ∀ q : Nat, s.heap.size ≤ q → A q)
    (hl : ls.size = nL) (hst : st0 = As.reverse ++ rest) (hW : (rest.map fun v => v.category).sum ≤ 8) (hdg : decode cc pc = .ok (.invokestatic index, 3))
    (kk : ∀ (r : Int32) (u : Z) (t : State) (H1 : Heap) (locs1 : List Loc), t.heap = H1 → s.vm.Alike t.vm → post r u → B (va_A wc H.size) u t → va_P D vwCl wr H1 → (∀ w1, va_D (va_A wc H.size) w1 → va_D A (w1 ++ wr)) → va_S A s.heap H1 locs1 → W p l e R s m args below meth c H1 locs1 (cells + mc) (slots + ms) Q (F0 m (pc + 3) ls (.int r :: rest))) : W p l e R s m args below meth c H locs cells slots Q (F0 m pc ls st0) := by
  have hFc := zy_free hD hS hA
  have hDc := (zy_Da.mp hD).1
  have run := vx_runSX (e := e) (below := below) (meth := meth) (As := As) (rest := rest) (H := H) (locs := locs) (cells := cells) (slots := slots) (g := F0 m pc ls st0) S (hM H.size) (vx_cwSW n S.2.2.2.2 hT hw hR.1.1 hR.1.2 hd hR.2.1) ⟨jPl_blind, fun U hU hW => ⟨rfl, by rw [hU], by rw [hU]; exact hPc, va_K.moved hW.alike hK, jN.warm hW hN, hDc.weaken (fun _ _ _ _ => trivial), hX.pass hS hU hW hFc, hY.moved hW.alike⟩⟩ rfl hn hl hst (lv_room hW) hdg ⟨hR.2.2.1, hR.2.2.2⟩
  have run2 : vx_Run p l e R s m args below meth c H locs cells slots mc ms (F0 m pc ls st0) rest (va_Qi post (B (va_A wc H.size)) (va_A wc H.size) As.toArray) (vx_X (fun _ : Unit => False) (fun _ _ _ => False) A) (va_A wc H.size) := fun T hT X => (run T hT X).imp id (fun ⟨q, st₀, t, T', L, E, ce, h0, X', hL, e1, e2, f, _⟩ => f.elim)
  refine vx_calli run2 hS (fun q _ h => hFc q h) hFc (fun q _ h => h) (fun E ce q9 u t H1 locs1 ht hvm hp => hp.elim) (fun r u t H1 locs1 ht hvm hp hB hz1 hk1 hS1 => ?_)
  obtain ⟨j1, j2⟩ := zy_join hD hPr hk1 hFc
  exact kk r u t H1 locs1 ht hvm hp hB j1 j2 hS1
/-- a method of an object that writes, its answer an int -/
theorem zy_callW {r : Int32} (S : CallFix p m c cc nL s args Ts own) (hM : jWi l y wl rm D (.ref b :: As) wc tys r wc') (hT : GoodIn Ts (wsV own index C y wl)) (hw : wl = Cond.code y bytes maxL ret :: wl') (hd : y.cls = C ∧ y.cls ≠ "java/lang/invoke/MethodHandle" ∧ y.cls ≠ "java/lang/invoke/VarHandle" ∧ (parseMethodDescriptor y.desc).map (fun d => d.parameters.length) = some n) (hn : As.length = n)
    (hR : (rm.cells = 0 ∧ rm.slots = 0) ∧ (rm.frames + 1 ≤ R.frames ∧ 8 + (maxL + 11) + rm.locals ≤ R.locals) ∧ cells ≤ R.cells ∧ slots ≤ R.slots) (hPc : va_P D vwCl wc H) (hPr : va_P D vwCl wr H) (hK : va_K D vwCl tys s) (hN : jN s) (hD : va_D A (wc ++ wr)) (hS : va_S A s.heap H locs) (hA : ∀ q : Nat, s.heap.size ≤ q → A q)
    (ci : Nat) {q : vw_C} {fs : List Value} (hc : vwCl[ci]? = some q) (hqC : q.1 = C) (he : wc[0]? = some (b, .inr (ci, fs)))
    (hl : ls.size = nL) (hst : st0 = As.reverse ++ .ref b :: rest) (hW : (rest.map fun v => v.category).sum ≤ 8) (hdg : decode cc pc = .ok (.invokevirtual index, 3))
    (kk : ∀ (H1 : Heap) (locs1 : List Loc), va_P D vwCl wc' H1 → va_P D vwCl wr H1 → va_D A (wc' ++ wr) → va_S A s.heap H1 locs1 → W p l e R s m args below meth c H1 locs1 cells slots Q (F0 m (pc + 3) ls (.int r :: rest))) : W p l e R s m args below meth c H locs cells slots Q (F0 m pc ls st0) := by
  have hFc := zy_free hD hS hA
  have hDc := (zy_Da.mp hD).1
  subst hqC
  refine va_calli (va_runV (As := As) (rest := rest) S (hM H.size) (cwV n S.2.2.2.2 hT hw hR.1.1 hR.1.2 hd hR.2.1) ⟨jPw_blind, va_recv hK hPc (ci := ci) (q0 := 0) hc he, fun U hU hW => ⟨rfl, by rw [hU], by rw [hU]; exact hPc, va_K.moved hW.alike hK, jN.warm hW hN, hDc.weaken (fun _ _ _ _ => trivial)⟩⟩ rfl hn hl hst (lv_room hW) hdg ⟨hR.2.2.1, hR.2.2.2⟩) hS (fun q _ h => hFc q h) hFc (fun r' u t H1 locs1 ht hvm hw hB hz1 hk1 hS1 => ?_)
  obtain ⟨hP1, hK1, hD1⟩ := hB
  rw [ht] at hP1
  obtain ⟨j1, j2⟩ := zy_join hD hPr hk1 hFc
  rw [hw]
  exact kk H1 locs1 hP1 j1 (j2 _ hD1) hS1
/-- a method of an object that reads -/
theorem zy_callR {r : Value} {wd : va_W} {tyd : List (ClassId × FieldType)} (S : CallFix p m c cc nL s args Ts own) (hM : jR l y wl rm D (.ref b :: As) wd tyd r) (hT : GoodIn Ts (wsV own index C y wl)) (hw : wl = Cond.code y bytes maxL ret :: wl') (hd : y.cls = C ∧ y.cls ≠ "java/lang/invoke/MethodHandle" ∧ y.cls ≠ "java/lang/invoke/VarHandle" ∧ (parseMethodDescriptor y.desc).map (fun d => d.parameters.length) = some n) (hn : As.length = n)
    (hR : (rm.cells = 0 ∧ rm.slots = 0) ∧ (rm.frames + 1 ≤ R.frames ∧ 8 + (maxL + 11) + rm.locals ≤ R.locals) ∧ cells ≤ R.cells ∧ slots ≤ R.slots) (hPc : va_P D vwCl wd H) (hK : va_K D vwCl tyd s) (hN : jN s)
    (ci : Nat) {q : vw_C} {fs : List Value} (hc : vwCl[ci]? = some q) (hqC : q.1 = C) (he : wd[0]? = some (b, .inr (ci, fs)))
    (hl : ls.size = nL) (hst : st0 = As.reverse ++ .ref b :: rest) (hW : (rest.map fun v => v.category).sum ≤ 8) (hdg : decode cc pc = .ok (.invokevirtual index, 3))
    (kk : W p l e R s m args below meth c H locs cells slots Q (F0 m (pc + 3) ls (r :: rest))) : W p l e R s m args below meth c H locs cells slots Q (F0 m pc ls st0) := by
  subst hqC
  exact W.callV (va_runV (As := As) (rest := rest) S hM (cwV n S.2.2.2.2 hT hw hR.1.1 hR.1.2 hd hR.2.1) ⟨jPr_blind, va_recv hK hPc (ci := ci) (q0 := 0) hc he, fun U hU hW => ⟨rfl, by rw [hU]; exact hPc, va_K.moved hW.alike hK, jN.warm hW hN⟩⟩ rfl hn hl hst (lv_room hW) hdg ⟨hR.2.2.1, hR.2.2.2⟩).run kk
end ZY
