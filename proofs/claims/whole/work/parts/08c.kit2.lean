/-! more short rows -/
theorem jw_zret {p : Program} {l : Launch} {e : Env} {R : Room} {s : State} {m : MethodId} {args : Array Value} {below : List Frame} {meth : Method} {c : Code} {H : Heap} {locs : List Loc} {cells slots : Nat} {cc : ByteArray} {pc : Nat} {ls : Array Slot} {D : va_G} {wn ws' : va_W} {tys : List (ClassId × FieldType)} {A : Nat → Prop} {v z : Int32} (hx : p.tables.exec = Jvm.exec) (hb : c.code = cc) (hr : meth.sig.returnType = some .boolean) (hlocks : meth.locks = false) (hK : va_K D vwCl tys s) (hP : va_P D vwCl wn H) (hD : va_D A wn) (hS : va_S A s.heap H locs) (hdg : decode cc pc = .ok (.ireturn, 1)) (hn : narrow .boolean (.int v) = .int v) (hv : v = z) (hw : wn = ws') : W p l e R s m args below meth c H locs cells slots (MQ below (jQi D z ws' tys A) args s cells slots A) (F0 m pc ls [.int v]) := by
  subst hv; subst hw
  exact W.zret hx hb hr hn (fun t ht hW => ⟨⟨v, (), rfl, rfl, by rw [ht]; exact hP, va_K.moved hW.alike hK, hD⟩, hS.F ht⟩) hS.2.2 hdg
theorem jx_card {x : Int32} (h : ¬ j_X3_isCard x = 0) : vp_in x 42 := by
  unfold j_X3_isCard at h
  by_cases h0 : x < 0
  · rw [if_pos h0] at h; exact absurd rfl h
  · rw [if_neg h0] at h
    by_cases h1 : (42 : Int32) ≤ x
    · rw [if_pos h1] at h; exact absurd rfl h
    · exact jx_in h0 h1 rfl (by decide)
theorem jx_in2 {x : Int32} (h : x = 0 ∨ x = 1) : vp_in x 2 := by
  rcases h with rfl | rfl <;> (unfold vp_in; decide)
theorem jx_arch {x : Int32} (h : ¬ j_X3_isArchivist x = 0) : vp_in x 2 := by
  unfold j_X3_isArchivist at h
  by_cases h0 : x = 0
  · exact jx_in2 (Or.inl h0)
  · by_cases h1 : x = 1
    · exact jx_in2 (Or.inr h1)
    · rw [if_neg h0, if_neg h1] at h; exact absurd rfl h
theorem jx_k2 (i : Nat) (hi : i ≤ 100) : (nI i).toInt64 + 1 = lN (i + 1) := by
  rw [nI_l (by omega), lN_1]
theorem jx_ne2 {i : Nat} (hi : i + 1 ≤ 41) : ¬ (nI (i + 1)).toInt64 + 1 = 0 := by
  rw [jx_k2 _ (by omega), show (0 : Int64) = lN 0 from rfl, lN_eq (by omega) (by omega)]
  omega
theorem jx_other2 {a : Int64} {i : Nat} (hi : i + 1 ≤ 41) : vp_in ((a.toUInt64 >>> ((33 : Int32).toInt64.toUInt64 &&& Int64.toUInt64 63)).toInt64 - (a.toUInt64 >>> ((33 : Int32).toInt64.toUInt64 &&& Int64.toUInt64 63)).toInt64 / ((nI (i + 1)).toInt64 + 1) * ((nI (i + 1)).toInt64 + 1)).toInt32 42 := by
  obtain ⟨n, hn, e⟩ := jx_ushr33 a
  rw [e, jx_k2 _ (by omega), pk_lRem (by omega) (by omega) (by omega), lN_i]
  exact vp_in_nI (Nat.lt_of_lt_of_le (Nat.mod_lt _ (by omega)) (by omega)) (by decide)
theorem jx_updr {f : Nat → Int32} {k : Nat} {x : Int32} (hf : ∀ j, j < 42 → vp_in (f j) 42) (hx : vp_in x 42) : ∀ j, j < 42 → vp_in (upd f k x j) 42 := by
  intro j hj
  unfold upd
  by_cases h : j = k
  · rw [if_pos h]; exact hx
  · rw [if_neg h]; exact hf j hj
