/-! THE LAW'S BODY: calls in a frame, and the shapes of its cases -/
theorem zy_Pm {D : va_G} {w : va_W} {H : Heap} : va_P D vwCl w H ↔ ∀ q ∈ w, va_at D vwCl q H := by
  constructor
  · intro h q hq
    obtain ⟨i, hi⟩ := List.getElem?_of_mem hq
    exact h i q hi
  · intro h k q hk
    exact h q (List.mem_of_getElem? hk)
theorem zy_Pa {D : va_G} {x y : va_W} {H : Heap} : va_P D vwCl (x ++ y) H ↔ va_P D vwCl x H ∧ va_P D vwCl y H := by
  rw [zy_Pm, zy_Pm, zy_Pm]
  constructor
  · intro h
    exact ⟨fun q hq => h q (List.mem_append_left _ hq), fun q hq => h q (List.mem_append_right _ hq)⟩
  · rintro ⟨h1, h2⟩ q hq
    rcases List.mem_append.mp hq with h | h
    · exact h1 q h
    · exact h2 q h
theorem zy_Dm {A : Nat → Prop} {w : va_W} : va_D A w ↔ (w.map Prod.fst).Nodup ∧ ∀ q ∈ w, A q.1 := by
  constructor
  · rintro ⟨h1, h2⟩
    refine ⟨?_, fun q hq => ?_⟩
    · rw [List.nodup_iff_pairwise_ne, List.pairwise_iff_getElem]
      intro i j hi hj hij
      rw [List.length_map] at hi hj
      rw [List.getElem_map, List.getElem_map]
      intro e
      have := h1 i j w[i] w[j] (List.getElem?_eq_getElem hi) (List.getElem?_eq_getElem hj) e
      omega
    · obtain ⟨i, hi⟩ := List.getElem?_of_mem hq
      exact h2 i q hi
  · rintro ⟨h1, h2⟩
    refine ⟨fun i j p q hi hj e => ?_, fun k q hk => h2 q (List.mem_of_getElem? hk)⟩
    rw [List.nodup_iff_pairwise_ne, List.pairwise_iff_getElem] at h1
    obtain ⟨hi1, hi2⟩ := List.getElem?_eq_some_iff.mp hi
    obtain ⟨hj1, hj2⟩ := List.getElem?_eq_some_iff.mp hj
    rcases Nat.lt_trichotomy i j with l | l | l
    · have := h1 i j (by rw [List.length_map]; exact hi1) (by rw [List.length_map]; exact hj1) l
      rw [List.getElem_map, List.getElem_map, hi2, hj2] at this
      exact absurd e this
    · exact l
    · have := h1 j i (by rw [List.length_map]; exact hj1) (by rw [List.length_map]; exact hi1) l
      rw [List.getElem_map, List.getElem_map, hi2, hj2] at this
      exact absurd e.symm this
theorem zy_Dp {A : Nat → Prop} {w w' : va_W} (h : va_D A w) (p : w.Perm w') : va_D A w' := by
  rw [zy_Dm] at h ⊢
  exact ⟨(p.map Prod.fst).nodup_iff.mp h.1, fun q hq => h.2 q (p.mem_iff.mpr hq)⟩
theorem zy_Da {A : Nat → Prop} {x y : va_W} : va_D A (x ++ y) ↔ va_D A x ∧ va_D A y ∧ ∀ p ∈ x, ∀ q ∈ y, ¬ p.1 = q.1 := by
  rw [zy_Dm, zy_Dm, zy_Dm, List.map_append, List.nodup_append]
  constructor
  · rintro ⟨⟨h1, h2, h3⟩, h4⟩
    exact ⟨⟨h1, fun q hq => h4 q (List.mem_append_left _ hq)⟩, ⟨h2, fun q hq => h4 q (List.mem_append_right _ hq)⟩, fun p hp q hq => h3 p.1 (List.mem_map_of_mem hp) q.1 (List.mem_map_of_mem hq)⟩
  · rintro ⟨⟨h1, h2⟩, ⟨h3, h4⟩, h5⟩
    refine ⟨⟨h1, h3, fun a ha b hb => ?_⟩, fun q hq => (List.mem_append.mp hq).elim (h2 q) (h4 q)⟩
    obtain ⟨p, hp, e1⟩ := List.mem_map.mp ha
    obtain ⟨q, hq, e2⟩ := List.mem_map.mp hb
    intro e
    exact h5 p hp q hq (by rw [e1, e2]; exact e)
/-- the callee's cells are wc, the rest is wr -/
theorem zy_free {A : Nat → Prop} {wc wr : va_W} {H0 H : Heap} {locs : List Loc} (hD : va_D A (wc ++ wr)) (hS : va_S A H0 H locs) (hA : ∀ q, H0.size ≤ q → A q) : ∀ q, va_A wc H.size q → A q := by
  intro q h
  rcases h with ⟨k, e, h⟩ | h
  · exact (zy_Dm.mp (zy_Da.mp hD).1).2 (q, e) (List.mem_of_getElem? h)
  · exact hA q (Nat.le_trans hS.1 h)
theorem zy_join {A : Nat → Prop} {D : va_G} {wc wr : va_W} {H H1 : Heap} (hD : va_D A (wc ++ wr)) (hr : va_P D vwCl wr H) (hk : ∀ q : Nat, q < H.size → ¬ va_A wc H.size q → H1[q]? = H[q]?) (hF : ∀ q, va_A wc H.size q → A q) : va_P D vwCl wr H1 ∧ ∀ w1, va_D (va_A wc H.size) w1 → va_D A (w1 ++ wr) := by
  obtain ⟨d1, d2, d3⟩ := zy_Da.mp hD
  have apart : ∀ q ∈ wr, q.1 < H.size ∧ ¬ va_A wc H.size q.1 := by
    intro q hq
    have lt := (zy_Pm.mp hr q hq).lt
    refine ⟨lt, ?_⟩
    rintro (⟨k, e, h⟩ | h)
    · exact d3 (q.1, e) (List.mem_of_getElem? h) q hq rfl
    · omega
  refine ⟨zy_Pm.mpr (fun q hq => (zy_Pm.mp hr q hq).kept (hk q.1 (apart q hq).1 (apart q hq).2)), fun w1 h1 => zy_Da.mpr ⟨h1.weaken (fun k q _ h => hF q.1 h), d2, fun p hp q hq e => ?_⟩⟩
  have := (zy_Dm.mp h1).2 p hp
  rw [e] at this
  exact (apart q hq).2 this
section ZW
variable {p : Program} {l : Launch} {e : Env} {R : Room} {s : State} {m : MethodId} {args : Array Value} {below : List Frame} {meth : Method} {c : Code} {H : Heap} {locs : List Loc} {cells slots : Nat} {Q : State → Prop}
variable {cc bytes : ByteArray} {pc index : Nat} {ls : Array Slot} {rest : List Value} {nL maxL mc ms : Nat} {Ts wl wl' : List Cond} {own : String} {y : MethodName} {rm : Room} {D : va_G} {wc wr : va_W} {b : Nat} {A : Nat → Prop}
/-- a public constructor -/
theorem zy_callI {B : (Nat → Prop) → Unit → State → Prop} (S : CallFix p m c cc nL s args Ts own) (hM : ∀ sz : Nat, Met l y wl rm (jPw D [.ref b] wc [] sz) (va_Qv (fun (_ : Unit) => True) (B (va_A wc sz)) (va_A wc sz)) mc ms (va_A wc sz)) (hT : GoodIn Ts wl) (hw : wl = Cond.code y bytes maxL none :: wl') (hlk : (Cond.methodLink own index y).before args s = true) (hini : (Cond.initialized y.cls).before args s = true) (hins : (Cond.instanceMethod y).before args s = true) (hyn : y.name = "<init>") (hd : y.cls ≠ "java/lang/invoke/MethodHandle" ∧ y.cls ≠ "java/lang/invoke/VarHandle" ∧ (parseMethodDescriptor y.desc).map (fun d => d.parameters.length) = some 0)
    (hR : (rm.cells = mc ∧ rm.slots = ms) ∧ (rm.frames + 1 ≤ R.frames ∧ 8 + (maxL + 11) + rm.locals ≤ R.locals) ∧ cells + mc ≤ R.cells ∧ slots + ms ≤ R.slots) (hPc : va_P D vwCl wc H) (hPr : va_P D vwCl wr H) (hK : va_K D vwCl [] s) (hN : jN s) (hD : va_D A (wc ++ wr)) (hS : va_S A s.heap H locs) (hA : ∀ q : Nat, s.heap.size ≤ q → A q)
    (hl : ls.size = nL) (hW : (rest.map fun v => v.category).sum ≤ 8) (hdg : decode cc pc = .ok (.invokespecial index, 3))
    (kk : ∀ (t : State) (H1 : Heap) (locs1 : List Loc), t.heap = H1 → s.vm.Alike t.vm → B (va_A wc H.size) () t → va_P D vwCl wr H1 → (∀ w1, va_D (va_A wc H.size) w1 → va_D A (w1 ++ wr)) → va_S A s.heap H1 locs1 → W p l e R s m args below meth c H1 locs1 (cells + mc) (slots + ms) Q (F0 m (pc + 3) ls rest)) : W p l e R s m args below meth c H locs cells slots Q (F0 m pc ls (.ref b :: rest)) := by
  have hFc := zy_free hD hS hA
  have hDc := (zy_Da.mp hD).1
  refine va_callv (va_runI (As := []) (rest := rest) S (hM H.size) (cwI 0 S.2.2.2.2 hT hw hR.1.1 hR.1.2 hini hlk hins hyn hd hR.2.1) ⟨jPw_blind, fun U hU hW => ⟨rfl, by rw [hU], by rw [hU]; exact hPc, va_K.moved hW.alike hK, jN.warm hW hN, hDc.weaken (fun _ _ _ _ => trivial)⟩⟩ rfl rfl hl rfl (lv_room hW) hdg ⟨hR.2.2.1, hR.2.2.2⟩) hS (fun q _ h => hFc q h) hFc (fun u t H1 locs1 ht hvm hw hB hz1 hk1 hS1 => ?_)
  obtain ⟨j1, j2⟩ := zy_join hD hPr hk1 hFc
  exact kk t H1 locs1 ht hvm hB j1 j2 hS1
end ZW
theorem jr_eqi {p : Program} {l : Launch} {e : Env} {R : Room} {s : State} {m : MethodId} {args : Array Value} {below : List Frame} {meth : Method} {c : Code} {H : Heap} {locs : List Loc} {cells slots : Nat} {Q : State → Prop} {pc : Nat} {ls : Array Slot} {rest : List Value} {v w : Int32} (h : v = w) (k : W p l e R s m args below meth c H locs cells slots Q (F0 m pc ls (.int w :: rest))) : W p l e R s m args below meth c H locs cells slots Q (F0 m pc ls (.int v :: rest)) := by
  subst h; exact k
