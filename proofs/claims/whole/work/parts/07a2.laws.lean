/-! small laws of index and narrowing -/
theorem jx_nar {v : Int32} (h : v = 0 ∨ v = 1) : narrow .boolean (.int v) = .int v := by
  rcases h with rfl | rfl <;> rfl
theorem jx_inlt {x : Int32} {n : Nat} (h : vp_in x n) : x.toNatClampNeg < n := by
  rcases Nat.lt_or_ge x.toNatClampNeg n with q | q
  · exact q
  · exact absurd (Or.inr q) h
theorem jx_sel {c0 : Prop} [Decidable c0] {a : Int32} (ha : a = 0 ∨ a = 1) : vp_in (if c0 then 1 - a else a) 2 := by
  have e : (if c0 then 1 - a else a) = 0 ∨ (if c0 then 1 - a else a) = 1 := by
    split
    · exact jx_flip ha
    · exact ha
  rcases e with e | e <;> rw [e] <;> (unfold vp_in; decide)
theorem jx_dr {u : Int32} (hd : ∃ k, k ≤ 30 ∧ u = nI k) : vp_in (if 29 ≤ u then 12 else 13 + u) 42 := by
  obtain ⟨k, hk, rfl⟩ := hd
  split
  · unfold vp_in; decide
  · rename_i h
    have hk' : k < 29 := by
      rcases Nat.lt_or_ge k 29 with q | q
      · exact q
      · exact absurd (nI_le q (by omega)) h
    rw [show (13 : Int32) + nI k = nI (13 + k) from by rw [← nI_add]; rfl]
    exact vp_in_nI (by omega) (by decide)
theorem jr_eqi {p : Program} {l : Launch} {e : Env} {R : Room} {s : State} {m : MethodId} {args : Array Value} {below : List Frame} {meth : Method} {c : Code} {H : Heap} {locs : List Loc} {cells slots : Nat} {Q : State → Prop} {pc : Nat} {ls : Array Slot} {rest : List Value} {v w : Int32} (h : v = w) (k : W p l e R s m args below meth c H locs cells slots Q (F0 m pc ls (.int w :: rest))) : W p l e R s m args below meth c H locs cells slots Q (F0 m pc ls (.int v :: rest)) := by
  subst h; exact k
