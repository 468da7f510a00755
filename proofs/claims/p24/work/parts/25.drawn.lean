/-! P24: WHAT THE TAPE GIVES -/
def pd_its (L : Nat) (xs : Nat → Int32) (k : Nat) : Int32 := if L ≤ k then 42403 * nI k + 17393 else xs k
def pd_w (L : Nat) (xs : Nat → Int32) (k : Nat) : Int32 := ((pd_its L xs k).toUInt32 >>> ((1 : Int32).toUInt32 &&& Int32.toUInt32 31)).toInt32
def pd_v (L : Nat) (xs : Nat → Int32) (k n : Nat) : Int32 := pd_w L xs k - pd_w L xs k / nI n * nI n
theorem pd_lt (L : Nat) (xs : Nat → Int32) (k : Nat) {n : Nat} (h0 : 0 < n) (hn : n < 2 ^ 31) : ∃ r, r < n ∧ pd_v L xs k n = nI r := by
  have hq := pk_ushr (pd_its L xs k) 1 1 (by decide)
  have lt : (pd_its L xs k).toBitVec.toNat < 2 ^ 32 := (pd_its L xs k).toBitVec.isLt
  have e : pd_w L xs k = nI ((pd_its L xs k).toBitVec.toNat / 2 ^ 1) := by
    refine Int32.toBitVec_inj.mp (BitVec.eq_of_toNat_eq ?_)
    rw [pk_tn (by omega)]
    exact hq
  refine ⟨(pd_its L xs k).toBitVec.toNat / 2 ^ 1 % n, Nat.mod_lt _ h0, ?_⟩
  unfold pd_v
  rw [e]
  exact pk_rem (by omega) h0 hn
def pd_P (b L : Nat) (xs : Nat → Int32) (av : List Value) : Array Value → State → Prop := va_Pc av (fun U => va_X b L xs U U.heap)
theorem pd_blind {b L : Nat} {xs : Nat → Int32} {av : List Value} : FrameBlind (pd_P b L xs av) := fun a U g mk q => ⟨q.1, va_X.moved (u := U) (U := U.calling g mk a) (H := U.heap) (Vm.Alike.refl U.vm) q.2⟩
abbrev rL_drawn : Room := { frames := 0, cells := 0, slots := 0, locals := 0 }
set_option maxHeartbeats 1000000 in
theorem c_L_drawn {l : Launch} {b L : Nat} {xs : Nat → Int32} {k n : Nat} (hL : L < 2 ^ 31) (hk : k < 2 ^ 31) (h0 : 0 < n) (hn : n < 2 ^ 31) : Met l yL_drawn wsL_drawn rL_drawn (pd_P b L xs [.ref b, .int (nI k), .int (nI n)]) (k2_QcV (.int (pd_v L xs k n))) 0 0 (fun _ => False) := by
  refine Met.ofW (cc := cL_drawn) (maxL := 4) (ret := some .int) (by decide) rfl ?_
  intro p e s m args below meth c s₁ B hml hv
  obtain ⟨rfl, hX⟩ := hv
  have hts := atoms_spec (ws := wsL_drawn) B.pre
  have hown : s.vm.findClass yL_drawn.cls = some m.cls := findClass_of_methodNamed B.named
  have hl := lv_entry [.ref b, .int (nI k), .int (nI n)] (n := 4) (Nat.le_of_ble_eq_true rfl)
  rw [lg_entry_eq]
  have hx := B.exec
  have hb := B.bytes
  have hr : meth.sig.returnType = some .int := B.returns
  have hlocks := B.notSynchronized
  generalize (lg_sl ([.ref b, .int (nI k), .int (nI n)]) ++ List.replicate (4 - (lg_sl ([.ref b, .int (nI k), .int (nI n)])).length) Slot.unset).toArray = ls at hl ⊢
  have hl : lv_has ls 4 [(0, .ref b), (1, .int (nI k)), (2, .int (nI n))] := hl
  have hbl : b < s.heap.size := by
    obtain ⟨scr, h1, _⟩ := hX
    exact (Array.getElem?_eq_some_iff.mp h1).1
  have hS : va_S (fun _ => False) s.heap s.heap [] := va_S.rf
  have J : ∀ (v : Int32), v = pd_its L xs k → W p l e rL_drawn s m ([.ref b, .int (nI k), .int (nI n)] : List Value).toArray below meth c s.heap [] 0 0 (MQ below (k2_QcV (.int (pd_v L xs k n))) ([.ref b, .int (nI k), .int (nI n)] : List Value).toArray s 0 0 (fun _ => False)) (F0 m 20 ls [.int v]) := by
    intro v hv
    subst hv
    refine lv_istore_n (lv' := [(3, .int (pd_its L xs k)), (0, .ref b), (1, .int (nI k)), (2, .int (nI n))]) hx hb dL_drawn_20 rfl hl (by decide) rfl (fun ls hl => ?_)
    refine lv_iload_n hx hb dL_drawn_21 rfl (lv_at hl 0 rfl) ?_
    refine lv_iconst (v := 1) hx hb dL_drawn_22 (by decide) ?_
    refine lv_iushr (v := pd_w L xs k) hx hb dL_drawn_23 rfl ?_
    refine lv_iload_n hx hb dL_drawn_24 rfl (lv_at hl 3 rfl) ?_
    refine lv_irem hx hb dL_drawn_25 (nI_ne0 h0 hn) ?_
    exact jr_iret hx hb hr hlocks dL_drawn_26 rfl
  refine lv_iload_n hx hb dL_drawn_0 rfl (lv_at hl 1 rfl) ?_
  refine lv_aload_n hx hb dL_drawn_1 rfl (lv_at hl 0 rfl) ?_
  refine va_slen hx hb hX hbl (fun h => h) hS dL_drawn_2 ?_
  have hcmp : nI L ≤ nI k ↔ L ≤ k := nI_leI hL hk
  refine lv_icmp_ge (tgt := 12) hx hb dL_drawn_3 (by decide) (fun h => ?_) (fun h => ?_)
  · have hLk : L ≤ k := hcmp.mp h
    refine lv_ldc hx hb hown (hts (.constant RL 7 (42403)) (by decide +kernel)) dL_drawn_12 ?_
    refine lv_iload_n hx hb dL_drawn_14 rfl (lv_at hl 1 rfl) ?_
    refine lv_imul hx hb dL_drawn_15 ?_
    refine lv_sipush (v := 17393) hx hb dL_drawn_16 (by decide) ?_
    refine lv_iadd hx hb dL_drawn_19 ?_
    exact J _ (by rw [pd_its, if_pos hLk])
  · have hLk : ¬ L ≤ k := fun z => h (hcmp.mpr z)
    refine lv_aload_n hx hb dL_drawn_6 rfl (lv_at hl 0 rfl) ?_
    refine lv_iload_n hx hb dL_drawn_7 rfl (lv_at hl 1 rfl) ?_
    refine va_sld hx hb hX hbl (fun h => h) hS (i := nI k) (vp_in_nI (by omega) (by omega)) dL_drawn_8 ?_
    rw [nI_clamp hk]
    refine lv_goto (tgt := 20) hx hb dL_drawn_9 (by decide) ?_
    exact J _ (by rw [pd_its, if_neg hLk])
/-- drawn is called: it answers some r below n -/
theorem pd_call {p : Program} {l : Launch} {e : Env} {R : Room} {s : State} {m : MethodId} {args : Array Value} {below : List Frame} {meth : Method} {c : Code} {H : Heap} {locs : List Loc} {cells slots : Nat} {Q : State → Prop}
    {cc : ByteArray} {pc index : Nat} {ls : Array Slot} {rest : List Value} {nL : Nat} {Ts : List Cond} {own : String} {b L : Nat} {xs : Nat → Int32} {A : Nat → Prop} {k n : Nat}
    (S : CallFix p m c cc nL s args Ts own) (hT : GoodIn Ts (va_wsS own index yL_drawn wsL_drawn)) (hL : L < 2 ^ 31) (hk : k < 2 ^ 31) (h0 : 0 < n) (hn : n < 2 ^ 31)
    (hR : 1 ≤ R.frames ∧ 23 ≤ R.locals ∧ cells ≤ R.cells ∧ slots ≤ R.slots) (hX : va_X b L xs s s.heap) (hbl : b < s.heap.size) (hbA : ¬ A b) (hS : va_S A s.heap H locs)
    (hl : lv_has ls nL []) (hW : (rest.map fun v => v.category).sum ≤ 8) (hdg : decode cc pc = .ok (.invokestatic index, 3))
    (kk : ∀ r, r < n → W p l e R s m args below meth c H locs cells slots Q (F0 m (pc + 3) ls (.int (nI r) :: rest))) : W p l e R s m args below meth c H locs cells slots Q (F0 m pc ls (.int (nI n) :: .int (nI k) :: .ref b :: rest)) := by
  obtain ⟨r, hr, e9⟩ := pd_lt L xs k h0 hn
  have hXH : va_X b L xs s H := hX.kept (hS.2.1 b hbl hbA)
  have kk' := kk r hr
  rw [← e9] at kk'
  exact W.callV (va_runS (As := [.ref b, .int (nI k), .int (nI n)]) (rest := rest) S (c_L_drawn hL hk h0 hn) (va_cwS 3 S.2.2.2.2 hT rfl rfl rfl (by decide +kernel) ⟨hR.1, hR.2.1⟩) ⟨pd_blind, fun U hU hW => ⟨rfl, by show va_X b L xs U U.heap; rw [hU]; exact va_X.moved hW.alike hXH⟩⟩ rfl rfl hl.1 rfl (lv_room hW) hdg ⟨hR.2.2.1, hR.2.2.2⟩).run kk'
