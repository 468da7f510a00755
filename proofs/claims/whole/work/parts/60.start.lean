/-! THE CLAIM OUT OF ONE WALK OF THE LAW'S BODY. Your part is whole_start (and what it stands on); all else here is the same for every law, but numbers. -/
def R_law : String := "ArchivistTricksLaw"
def lw_P (b : Addr) (xs : List Int32) (args : Array Value) (s : State) : Prop := args = #[.ref b] ∧ s.IntsAt b xs ∧ xs.length ≤ 1536 ∧ (Jvm.Cond.and given_1 narrow_1).before args s = true
def lw_Q (_ : Array Value) (s : State) (o : Outcome) (t : State) : Prop := o = .returned (some (.int 1)) ∧ Framed s o t [] 601024 7293034
def lw_Z (below : List Frame) (a : Array Value) (s : State) : State → Prop := fun t => ∃ o, t.status = .running ∧ Ended t below o ∧ lw_Q a s o t
/-- the law's own end, with 1 on the stack, nothing written that was there before, its room as the claim has it -/
theorem lw_ret {p : Program} {l : Launch} {e : Env} {s : State} {m : MethodId} {below : List Frame} {meth : Method} {c : Code} {b : Nat} (hx : p.tables.exec = Jvm.exec) (hb : c.code = code) (hr : meth.sig.returnType = ret) (hlocks : meth.locks = false) {pc : Nat} {H : Heap} {ls : Array Slot} (hdg : decode code pc = .ok (.ireturn, 1)) : W p l e room_1 s m #[Value.ref b] below meth c H [] 601024 7293034 (lw_Z below #[Value.ref b] s) (F0 m pc ls [.int 1]) := by
  intro T hT X
  obtain ⟨fs, hret, hrun, hended, hW, hframe⟩ := X.leave (v := some (.int 1)) (hlocks := hlocks) (fun h => by rw [hr] at h; cases h)
  have hmeth' : T.vm.method? m = some meth := X.method'
  refine ⟨T.setFrames fs, ?_, .returned (some (.int 1)), hrun, hended, rfl, ⟨_, rfl⟩, hW, hframe⟩
  jvm_step X.here [X.here.top, hx, hb, hdg, hmeth', hr, ret, narrow_b1]
  (try refine ⟨rfl, ?_⟩); (try refine ⟨rfl, ?_⟩)
  first | (intro acts; rw [hret _ acts rfl rfl rfl]) | rw [hret _ _ rfl rfl rfl]
  exact Steps.refl _
/-- what holds at the law's entry: the machine, the code, the tables' words (any of lw_tbl by 'hts w (by decide +kernel)'), the script of L ints xs at the cell b, what the Statement gives of the start (any of its parts by flat_of_before) -/
def lw_At (p : Program) (s : State) (m : MethodId) (meth : Method) (c : Code) (b L : Nat) (xs : Nat → Int32) : Prop :=
  p.tables.exec = Jvm.exec ∧ c.code = code ∧ meth.sig.returnType = ret ∧ c.maxLocals = 7 ∧ s.vm.findClass R_law = some m.cls ∧ (∀ w ∈ lw_tbl, w.before #[Value.ref b] s = true) ∧ va_X b L xs s s.heap ∧ b < s.heap.size ∧ meth.locks = false ∧ (Jvm.Cond.and given_1 narrow_1).before #[Value.ref b] s = true
-- ===== YOUR PART BEGINS =====
section ZW
variable {p : Program} {l : Launch} {e : Env} {R : Room} {s : State} {m : MethodId} {args : Array Value} {below : List Frame} {meth : Method} {c : Code} {H : Heap} {locs : List Loc} {cells slots : Nat} {Q : State → Prop}
variable {cc bytes : ByteArray} {pc index : Nat} {ls : Array Slot} {rest : List Value} {nL maxL mc ms : Nat} {Ts wl wl' : List Cond} {own : String} {y : MethodName} {rm : Room} {D : va_G} {wc wr : va_W} {b : Nat} {A : Nat → Prop}
/-- a public constructor -/
theorem zy_callI {B : (Nat → Prop) → Unit → State → Prop} (S : CallFix p m c cc nL s args Ts own) (hM : ∀ sz : Nat, Met l y wl rm (jPw D [.ref b] wc [] sz) (va_Qv (fun (_ : Unit) => True) (B (va_A wc sz)) (va_A wc sz)) mc ms (va_A wc sz)) (hT : GoodIn Ts wl) (hw : wl = Cond.code y bytes maxL none :: wl') (hlk : (Cond.methodLink own index y).before args s = true) (hini : (Cond.initialized y.cls).before args s = true) (hins : (Cond.instanceMethod y).before args s = true) (hyn : y.name = "<init>") (hd : y.cls ≠ "java/lang/invoke/MethodHandle" ∧ y.cls ≠ "java/lang/invoke/VarHandle" ∧ (parseMethodDescriptor y.desc).map (fun d => d.parameters.length) = some 0)
    (hR : (rm.cells = mc ∧ rm.slots = ms) ∧ (rm.frames + 1 ≤ R.frames ∧ 8 + (maxL + 11) + rm.locals ≤ R.locals) ∧ cells + mc ≤ R.cells ∧ slots + ms ≤ R.slots) (hPc : va_P D vwCl wc H) (hPr : va_P D vwCl wr H) (hK : va_K D vwCl [] s) (hN : jN s) (hD : va_D A (wc ++ wr)) (hS : va_S A s.heap H locs) (hA : ∀ q : Nat, s.heap.size ≤ q → A q)
    (hl : ls.size = nL) (hW : (rest.map fun v => v.category).sum ≤ 8) (hdg : decode cc pc = .ok (.invokespecial index, 3))
    (kk : ∀ (t : State) (H1 : Heap) (locs1 : List Loc), t.heap = H1 → s.vm.Alike t.vm → B (va_A wc H.size) () t → va_P D vwCl wr H1 → (∀ w1, va_D (va_A wc H.size) w1 → va_D A (w1 ++ wr)) → va_S A s.heap H1 locs1 → W p l e R s m args below meth c H1 locs1 (cells + mc) (slots + ms) Q (F0 m (pc + 3) ls rest)) : W p l e R s m args below meth c H locs cells slots Q (F0 m pc ls (.ref b :: rest)) := by
  have hFc := zy_free hD hS hA
  have hDc := (zy_Da.mp hD).1
  refine va_callv (va_runI (As := []) (rest := rest) S (hM H.size) (cwI 0 S.2.2.2.2 hT hw hR.1.1 hR.1.2 hini hlk hins hyn hd hR.2.1) ⟨jPw_blind, fun U hU hW => ⟨rfl, by rw [hU], by rw [hU]; exact hPc, va_K.moved hW.alike hK, jN.warm hW hN, hDc.weaken (fun _ _ _ _ => trivial)⟩⟩ rfl rfl hl rfl (lv_room hW) hdg ⟨hR.2.2.1, hR.2.2.2⟩) hS (fun q _ h => hFc q h) hFc (fun u t H1 locs1 ht hvm hw hB hz1 hk1 hS1 => ?_)
  obtain ⟨j1, j2⟩ := zy_join hD hPr hk1 hFc
  exact kk t H1 locs1 ht hvm hB j1 j2 hS1
end ZW
theorem zw_str {s : State} {args : Array Value} {c2 : ClassId} (hc : s.vm.findClass RX2 = some c2) {k : Nat} {tx : String} (h : (Cond.stringRef RX2 k tx).before args s = true) : ∃ a, vk_R RX2 k tx a s := by
  obtain ⟨k9, cf, i, a, -, -, -, -, -, hev⟩ := Cond.stringRef_spec hc h
  exact ⟨a, vk_R.of h hev⟩
theorem zw_X {s : State} {args : Array Value} {c2 : ClassId} (hc : s.vm.findClass RX2 = some c2) (hts : ∀ w ∈ lw_tbl, w.before args s = true) (hg : (Jvm.Cond.and given_1 narrow_1).before args s = true) : jX (fun q : Nat => s.heap.size ≤ q) s s.heap := by
  have hf := flat_of_before _ hg
  have hA : ∀ a : Nat, a < s.heap.size → ¬ s.heap.size ≤ a := fun a h => Nat.not_le.mpr h
  have hini : (Cond.initialized "java/lang/Throwable").before args s = true := hts _ (List.mem_of_getElem? (i := 48) (by decide +kernel))
  refine ⟨vx_Zqof (hts _ (List.mem_of_getElem? (i := 260) (by decide +kernel))) hini (hf _ (by decide +kernel)) hA, vx_Zqof (hts _ (List.mem_of_getElem? (i := 262) (by decide +kernel))) hini (hf _ (by decide +kernel)) hA, fun E hE => ?_, fun Y hY => ?_, fun q hq => ?_⟩
  · rcases List.mem_cons.mp hE with h | h
    · subst h; exact va_Nw.of rfl (hts _ (List.mem_of_getElem? (i := 235) (by decide +kernel)))
    · rcases List.mem_cons.mp h with h | h
      · subst h; exact va_Nw.of rfl (hts _ (List.mem_of_getElem? (i := 303) (by decide +kernel)))
      · rcases List.mem_cons.mp h with h | h
        · subst h; exact va_Nw.of rfl (hts _ (List.mem_of_getElem? (i := 373) (by decide +kernel)))
        · exact absurd h List.not_mem_nil
  · rcases List.mem_cons.mp hY with h | h
    · subst h; exact va_Nw.of rfl (hts (.declares (Bundle.initS "java/lang/RuntimeException")) (List.mem_of_getElem? (i := 237) (by decide +kernel)))
    · rcases List.mem_cons.mp h with h | h
      · subst h; exact va_Nw.of rfl (hts (.declares (Bundle.initS "java/lang/Exception")) (List.mem_of_getElem? (i := 239) (by decide +kernel)))
      · rcases List.mem_cons.mp h with h | h
        · subst h; exact va_Nw.of rfl (hts (.declares (Bundle.initS Bundle.tN)) (List.mem_of_getElem? (i := 241) (by decide +kernel)))
        · exact absurd h List.not_mem_nil
  · rcases List.mem_cons.mp hq with h | h
    · subst h; exact zw_str hc (hts _ (List.mem_of_getElem? (i := 274) (by decide +kernel)))
    · rcases List.mem_cons.mp h with h | h
      · subst h; exact zw_str hc (hts _ (List.mem_of_getElem? (i := 310) (by decide +kernel)))
      · rcases List.mem_cons.mp h with h | h
        · subst h; exact zw_str hc (hts _ (List.mem_of_getElem? (i := 351) (by decide +kernel)))
        · rcases List.mem_cons.mp h with h | h
          · subst h; exact zw_str hc (hts _ (List.mem_of_getElem? (i := 352) (by decide +kernel)))
          · rcases List.mem_cons.mp h with h | h
            · subst h; exact zw_str hc (hts _ (List.mem_of_getElem? (i := 380) (by decide +kernel)))
            · rcases List.mem_cons.mp h with h | h
              · subst h; exact zw_str hc (hts _ (List.mem_of_getElem? (i := 400) (by decide +kernel)))
              · rcases List.mem_cons.mp h with h | h
                · subst h; exact zw_str hc (hts _ (List.mem_of_getElem? (i := 436) (by decide +kernel)))
                · rcases List.mem_cons.mp h with h | h
                  · subst h; exact zw_str hc (hts _ (List.mem_of_getElem? (i := 448) (by decide +kernel)))
                  · exact absurd h List.not_mem_nil
theorem zw_N {s : State} {args : Array Value} (hts : ∀ w ∈ lw_tbl, w.before args s = true) : jN s := ⟨va_Nw.of rfl (hts _ (List.mem_of_getElem? (i := 506) (by decide +kernel))), va_Nw.of rfl (hts _ (List.mem_of_getElem? (i := 508) (by decide +kernel))), va_Nw.of rfl (hts _ (List.mem_of_getElem? (i := 499) (by decide +kernel))), va_Nw.of rfl (hts _ (List.mem_of_getElem? (i := 500) (by decide +kernel))), va_Nw.of rfl (hts _ (List.mem_of_getElem? (i := 501) (by decide +kernel))), va_Nw.of rfl (hts _ (List.mem_of_getElem? (i := 512) (by decide +kernel))), va_Nw.of rfl (hts _ (List.mem_of_getElem? (i := 68) (by decide +kernel))), va_Nw.of rfl (hts _ (List.mem_of_getElem? (i := 455) (by decide +kernel)))⟩
theorem whole_start {p : Program} {e : Env} {s : State} {m : MethodId} {below : List Frame} {meth : Method} {c : Code} (l : Launch) (hflags : l.flags = flags0) {b L : Nat} {xs : Nat → Int32} (hL : L ≤ 1536) (C0 : lw_At p s m meth c b L xs) : W p l e room_1 s m #[Value.ref b] below meth c s.heap [] 0 0 (lw_Z below #[Value.ref b] s) (entryFrame m ([Value.ref b] : List Value).toArray 7) := by
  obtain ⟨hx, hb, hr, hml, hown0, hts0, hXs, hbl, hlocks, hgv⟩ := id C0
  have hown : s.vm.findClass RL = some m.cls := hown0
  have hts : ∀ w ∈ wsL_law, w.before #[Value.ref b] s = true := fun w h => hts0 w (wsL_law_in w h)
  have S : CallFix p m c cL_law 7 s #[Value.ref b] wsL_law RL := ⟨hx, hb, hml, hown, hts⟩
  have hA : ∀ q : Nat, s.heap.size ≤ q → (fun q : Nat => s.heap.size ≤ q) q := fun _ h => h
  have hbA : ¬ (fun q : Nat => s.heap.size ≤ q) b := Nat.not_le.mpr hbl
  obtain ⟨c0, iS0, hKn0⟩ := u_known (C := RX0) (T := TX0) (N := 5) (n := 5) hts inlX0 (hts (.instantiable RX0 5) (List.mem_of_getElem? (i := 17) (by decide +kernel)))
  obtain ⟨c1, iS1, hKn1⟩ := u_known (C := RX1) (T := TX1) (N := 4) (n := 4) hts inlX1 (hts (.instantiable RX1 4) (List.mem_of_getElem? (i := 415) (by decide +kernel)))
  obtain ⟨c2, iS2, hKn2⟩ := u_known (C := RX2) (T := TX2) (N := 11) (n := 11) hts inlX2 (hts (.instantiable RX2 11) (List.mem_of_getElem? (i := 1) (by decide +kernel)))
  obtain ⟨c3, iS3, hKn3⟩ := u_known (C := RX3) (T := TX3) (N := 15) (n := 15) hts inlX3 (hts (.instantiable RX3 15) (List.mem_of_getElem? (i := 4) (by decide +kernel)))
  obtain ⟨D, hKc⟩ : ∃ (D : va_G), ∀ (k : Nat) (q : vw_C), vwCl[k]? = some q → u_Kn s q.1 q.2.1 q.2.2 (D.1 k) (D.2 k) := by
    refine ⟨(fun k => if k = 0 then c0 else if k = 1 then c1 else if k = 2 then c2 else c3, fun k => if k = 0 then iS0 else if k = 1 then iS1 else if k = 2 then iS2 else iS3), ?_⟩
    intro k q hq
    match k, hq with
    | 0, hq => cases hq; exact hKn0
    | 1, hq => cases hq; exact hKn1
    | 2, hq => cases hq; exact hKn2
    | 3, hq => cases hq; exact hKn3
    | k + 4, hq => simp [vwCl] at hq
  have hc2 : s.vm.findClass RX2 = some c2 := hKn2.2.1
  have hJX := zw_X hc2 hts0 hgv
  have hJN := zw_N hts0
  have hY : va_Nc "java/lang/IllegalStateException" "java/lang/IllegalArgumentException" s := va_Nc.of (flat_of_before _ hgv _ (by decide +kernel))
  have hst : l.stackTraces = false := by
    unfold Launch.stackTraces
    rw [hflags]
    decide +kernel
  have hS : va_S (fun q : Nat => s.heap.size ≤ q) s.heap s.heap [] := va_S.rf
  have hK : va_K D vwCl [] s := ⟨hKc, fun k q h => by simp at h⟩
  have hP : va_P D vwCl [] s.heap := fun k q h => by simp at h
  have hD : va_D (fun q : Nat => s.heap.size ≤ q) [] := ⟨fun i j p q h => by simp at h, fun k q h => by simp at h⟩
  have hl := lv_entry ([.ref b]) (n := 7) (Nat.le_of_ble_eq_true rfl)
  rw [lg_entry_eq]
  generalize (lg_sl ([.ref b]) ++ List.replicate (7 - (lg_sl ([.ref b])).length) Slot.unset).toArray = ls at hl ⊢
  have hl : lv_has ls 7 [(0, .ref b)] := hl
  refine va_new (ci := 2) (fs := [.null, .null, .null, .int 0, .int 0, .int 0, .int 0, .int 0, .int 0, .null, .int 0]) (C := RX2) (T := TX2) (N := 11) hx hb hts inlX2 tyX2 tyX2_ok hown (hts (.classLink RL 8 RX2) (List.mem_of_getElem? (i := 0) (by decide +kernel))) (hts (.instantiable RX2 11) (List.mem_of_getElem? (i := 1) (by decide +kernel))) (hts (.initialized RX2) (List.mem_of_getElem? (i := 2) (by decide +kernel))) hK hP hD hS hA rfl (fun j hj => by rcases (show j = 0 ∨ j = 1 ∨ j = 2 ∨ j = 3 ∨ j = 4 ∨ j = 5 ∨ j = 6 ∨ j = 7 ∨ j = 8 ∨ j = 9 ∨ j = 10 by omega) with rfl | rfl | rfl | rfl | rfl | rfl | rfl | rfl | rfl | rfl | rfl <;> rfl) (Nat.le_of_ble_eq_true rfl) (Nat.le_of_ble_eq_true rfl) dL_law_0 (fun a0 H hP hD hS => ?_)
  have hP : va_P D vwCl [(a0, .inr (2, [.null, .null, .null, .int 0, .int 0, .int 0, .int 0, .int 0, .int 0, .null, .int 0]))] H := hP
  have hD : va_D (fun q : Nat => s.heap.size ≤ q) ([(a0, .inr (2, [.null, .null, .null, .int 0, .int 0, .int 0, .int 0, .int 0, .int 0, .null, .int 0]))] ++ []) := hD
  refine W.widen (k := 1) (n := 11) (by omega) (by omega) ?_
  refine lv_dup hx hb dL_law_3 rfl ?_
  refine zy_callI (mc := 3) (ms := 52) (rm := rX2_init) (B := fun A9 => fun (_ : Unit) (t : State) => ∃ (aR aF aG : Nat) (cI : ClassId), va_P D vwCl (jC a0 aR aF aG cI (fun _ => 0) 42 (-1) (-1) (-1) 0 0 none 0 0 0 0 0 0 0 0 0 0 0) t.heap ∧ va_K D vwCl [(cI, .int)] t ∧ va_D A9 (jC a0 aR aF aG cI (fun _ => 0) 42 (-1) (-1) (-1) 0 0 none 0 0 0 0 0 0 0 0 0 0 0)) (wc := [(a0, .inr (2, [.null, .null, .null, .int 0, .int 0, .int 0, .int 0, .int 0, .int 0, .null, .int 0]))]) (wr := []) (rest := [.ref a0]) S (c_X2_init a0) gL_law_X2_init rfl (hts (.methodLink RL 54 yX2_init) (List.mem_of_getElem? (i := 8) (by decide +kernel))) (hts (.initialized RX2) (List.mem_of_getElem? (i := 2) (by decide +kernel))) (hts (.instanceMethod yX2_init) (List.mem_of_getElem? (i := 9) (by decide +kernel))) rfl (by decide +kernel) ⟨⟨rfl, rfl⟩, ⟨Nat.le_of_ble_eq_true rfl, Nat.le_of_ble_eq_true rfl⟩, Nat.le_of_ble_eq_true rfl, Nat.le_of_ble_eq_true rfl⟩ hP (fun k q h => by simp at h) hK hJN hD hS hA hl.1 (Nat.le_of_ble_eq_true rfl) dL_law_4 (fun t H1 locs1 ht hvm hB hPr hJ hS => ?_)
  obtain ⟨aR, aF, aG, cI, hP1, hK1, hD1⟩ := hB
  rw [ht] at hP1
  have hKI : va_K D vwCl [(cI, .int)] s := va_K.moved hvm.symm hK1
  have hD2 : va_D (fun q : Nat => s.heap.size ≤ q) (jC a0 aR aF aG cI (fun _ => 0) 42 (-1) (-1) (-1) 0 0 none 0 0 0 0 0 0 0 0 0 0 0) := by have := hJ _ hD1; rwa [List.append_nil] at this
  refine W.widen (k := 4) (n := 63) (by omega) (by omega) ?_
  refine lv_astore_n (lv' := [(1, .ref a0), (0, .ref b)]) hx hb dL_law_7 rfl hl (by decide) rfl (fun ls hl => ?_)
  refine va_new (ci := 3) (fs := [.null, .null, .int 0, .int 0, .int 0, .int 0, .int 0, .int 0, .null, .null, .null, .null, .int 0, .null, .null]) (C := RX3) (T := TX3) (N := 15) hx hb hts inlX3 tyX3 tyX3_ok hown (hts (.classLink RL 55 RX3) (List.mem_of_getElem? (i := 3) (by decide +kernel))) (hts (.instantiable RX3 15) (List.mem_of_getElem? (i := 4) (by decide +kernel))) (hts (.initialized RX3) (List.mem_of_getElem? (i := 5) (by decide +kernel))) hK hP1 hD2 hS hA rfl (fun j hj => by rcases (show j = 0 ∨ j = 1 ∨ j = 2 ∨ j = 3 ∨ j = 4 ∨ j = 5 ∨ j = 6 ∨ j = 7 ∨ j = 8 ∨ j = 9 ∨ j = 10 ∨ j = 11 ∨ j = 12 ∨ j = 13 ∨ j = 14 by omega) with rfl | rfl | rfl | rfl | rfl | rfl | rfl | rfl | rfl | rfl | rfl | rfl | rfl | rfl | rfl <;> rfl) (Nat.le_of_ble_eq_true rfl) (Nat.le_of_ble_eq_true rfl) dL_law_8 (fun b0 H2 hP2 hD3 hS => ?_)
  obtain ⟨hPC, hPb⟩ := zy_Pa.mp hP2
  refine W.widen (k := 5) (n := 78) (by omega) (by omega) ?_
  refine lv_dup hx hb dL_law_11 rfl ?_
  refine zy_callI (mc := 8) (ms := 8296) (rm := rX3_init) (B := fun A9 => fun (_ : Unit) (t : State) => ∃ (bP bR bS bT bG bW bH bO : Nat) (cP cR cS cT cG cW cH cO : ClassId), va_P D vwCl (jM b0 bP bR bS bT bG bW bH bO cP cR cS cT cG cW cH cO (fun _ => 0) (fun _ => 0) (fun _ => 0) (fun _ => 0) (fun _ => 0) (fun _ => 0) (fun _ => 0) (fun _ => 0) 0 0 0 0 (-1) (-1) 0) t.heap ∧ va_K D vwCl [(cP, .int), (cR, .int), (cS, .int), (cT, .int), (cG, .int), (cW, .int), (cH, .int), (cO, .int)] t ∧ va_D A9 (jM b0 bP bR bS bT bG bW bH bO cP cR cS cT cG cW cH cO (fun _ => 0) (fun _ => 0) (fun _ => 0) (fun _ => 0) (fun _ => 0) (fun _ => 0) (fun _ => 0) (fun _ => 0) 0 0 0 0 (-1) (-1) 0)) (wc := [(b0, .inr (3, [.null, .null, .int 0, .int 0, .int 0, .int 0, .int 0, .int 0, .null, .null, .null, .null, .int 0, .null, .null]))]) (wr := jC a0 aR aF aG cI (fun _ => 0) 42 (-1) (-1) (-1) 0 0 none 0 0 0 0 0 0 0 0 0 0 0) (rest := [.ref b0]) S (c_X3_init b0) gL_law_X3_init rfl (hts (.methodLink RL 57 yX3_init) (List.mem_of_getElem? (i := 37) (by decide +kernel))) (hts (.initialized RX3) (List.mem_of_getElem? (i := 5) (by decide +kernel))) (hts (.instanceMethod yX3_init) (List.mem_of_getElem? (i := 38) (by decide +kernel))) rfl (by decide +kernel) ⟨⟨rfl, rfl⟩, ⟨Nat.le_of_ble_eq_true rfl, Nat.le_of_ble_eq_true rfl⟩, Nat.le_of_ble_eq_true rfl, Nat.le_of_ble_eq_true rfl⟩ hPb hPC hK hJN (zy_Dp hD3 List.perm_append_comm) hS hA hl.1 (Nat.le_of_ble_eq_true rfl) dL_law_12 (fun t2 H3 locs3 ht2 hvm2 hB2 hPC hJ2 hS => ?_)
  obtain ⟨bP, bR, bS, bT, bG, bW, bH, bO, cP, cR, cS, cT, cG, cW, cH, cO, hPM, hKM1, hDM⟩ := hB2
  rw [ht2] at hPM
  have hKM := va_K.moved hvm2.symm hKM1
  have hD4 := hJ2 _ hDM
  refine W.widen (k := 13) (n := 8374) (by omega) (by omega) ?_
  refine lv_astore_n (lv' := [(2, .ref b0), (1, .ref a0), (0, .ref b)]) hx hb dL_law_15 rfl hl (by decide) rfl (fun ls hl => ?_)
  refine lv_iconst (v := 1) hx hb dL_law_16 (by decide) ?_
  refine va_newa (atype := .long) (n := 1) (N' := 1) (a0 := (1, .inr (.inl (fun _ => 0)))) hx hb (hts (.arrayClass .long) (List.mem_of_getElem? (i := 6) (by decide +kernel))) rfl hK (zy_Pa.mpr ⟨hPM, hPC⟩) hD4 hS hA (fun _ => rfl) (by decide) (by decide) (Nat.le_of_ble_eq_true rfl) (Nat.le_of_ble_eq_true rfl) (Nat.le_of_ble_eq_true rfl) dL_law_17 (fun aO cL H4 hKL hP5 hD5 hS => ?_)
  have hKL : va_K D vwCl [(cL, .long)] s := hKL
  refine W.widen (k := 14) (n := 8375) (by omega) (by omega) ?_
  refine lv_astore_n (lv' := [(3, .ref aO), (2, .ref b0), (1, .ref a0), (0, .ref b)]) hx hb dL_law_19 rfl hl (by decide) rfl (fun ls hl => ?_)
  refine lv_iconst (v := 0) hx hb dL_law_20 (by decide) ?_
  refine lv_istore (lv' := [(4, .int (nI (3 * 0))), (3, .ref aO), (2, .ref b0), (1, .ref a0), (0, .ref b)]) hx hb dL_law_21 hl (by decide) rfl (fun ls hl => ?_)
  have X : zyX l p s m c b L xs D (fun q : Nat => s.heap.size ≤ q) cI cL cP cR cS cT cG cW cH cO := ⟨S, hJN, hJX, hY, hst, hXs, hbl, hbA, hA, hKI.app hKL, hKM, hL⟩
  have hPw : va_P D vwCl (jCL a0 aR aF aG cI (fun _ => 0) 42 (-1) (-1) (-1) 0 0 none 0 0 0 0 0 0 0 0 0 0 0 aO cL (fun _ => 0)) H4 := hP5.sub [9, 10, 11, 12, 13] rfl
  have hPv : va_P D vwCl (jM b0 bP bR bS bT bG bW bH bO cP cR cS cT cG cW cH cO (fun _ => 0) (fun _ => 0) (fun _ => 0) (fun _ => 0) (fun _ => 0) (fun _ => 0) (fun _ => 0) (fun _ => 0) 0 0 0 0 (-1) (-1) 0) H4 := hP5.sub [0, 1, 2, 3, 4, 5, 6, 7, 8] rfl
  have hDw : va_D (fun q : Nat => s.heap.size ≤ q) (jCL a0 aR aF aG cI (fun _ => 0) 42 (-1) (-1) (-1) 0 0 none 0 0 0 0 0 0 0 0 0 0 0 aO cL (fun _ => 0) ++ (jM b0 bP bR bS bT bG bW bH bO cP cR cS cT cG cW cH cO (fun _ => 0) (fun _ => 0) (fun _ => 0) (fun _ => 0) (fun _ => 0) (fun _ => 0) (fun _ => 0) (fun _ => 0) 0 0 0 0 (-1) (-1) 0 ++ [])) := hD5.sub [9, 10, 11, 12, 13, 0, 1, 2, 3, 4, 5, 6, 7, 8] (by decide) rfl
  have v0 : vp_in 0 42 := by unfold vp_in; decide
  have hR0 : zr_R (fun _ => 0) 42 (-1) (-1) (-1) 0 0 0 0 0 0 0 0 0 0 0 0 (fun _ => 0) (fun _ => 0) (fun _ => 0) (fun _ => 0) (fun _ => 0) (fun _ => 0) (fun _ => 0) 0 0 0 0 (-1) (-1) := ⟨⟨rfl, rfl, rfl, rfl, rfl, rfl, rfl, rfl⟩, ⟨rfl, rfl⟩, fun j hj => v0, Or.inl rfl, Or.inl ⟨rfl, rfl, rfl⟩, fun j hj => v0, Or.inl ⟨rfl, rfl, rfl, rfl, rfl, rfl, rfl⟩⟩
  refine zy_loop X (fun H ls => ?_) 512 0 H4 locs3 14 8375 ls (by omega) (by omega) (by omega) (by omega) (zyI_mk hR0 (Or.inl ⟨rfl, rfl, rfl⟩) hPw hPv (fun k q h => by simp at h) hDw) hS hl
  refine lv_iconst (v := 1) hx hb dL_law_951 (by decide) ?_
  exact lw_ret hx hb hr hlocks dL_law_952
-- ===== YOUR PART ENDS =====
set_option maxHeartbeats 4000000 in
theorem lw_walk (l : Launch) (hflags : l.flags = flags0) (b : Addr) (xs : List Int32) : MetFree l x (headSpec (Jvm.Cond.code x code maxLocals ret :: tables_1) room_1) (lw_P b xs) (fun _ _ _ _ _ => True) lw_Q := by
  refine MetFree.of_bodyS (code := code) (maxLocals := maxLocals) (ret := ret) (by decide) ?_ ?_
  · intro args s m h hn
    obtain ⟨meth, c, h1, h2, h3, h4, h5, h6, -, -⟩ := Cond.code_spec hn (atoms_spec (ws := Jvm.Cond.code x code maxLocals ret :: tables_1) h _ List.mem_cons_self)
    exact ⟨meth, c, h1, h2, h3, h4, h5, h6⟩
  · intro p e s m args below meth c s₁ B hml0 hP _
    obtain ⟨rfl, hx, hbd, hgv⟩ := hP
    obtain ⟨scr, harrAt, hlist, hof, hsmall⟩ := hx
    obtain ⟨hcb, hkn, -, -⟩ := State.arrayAt?_spec harrAt
    have hown : s.vm.findClass R_law = some m.cls := findClass_of_methodNamed B.named
    have hts0 : ∀ c ∈ (Jvm.Cond.code x code maxLocals ret :: tables_1), c.before #[Value.ref b] s = true := atoms_spec (ws := Jvm.Cond.code x code maxLocals ret :: tables_1) B.pre
    have hts : ∀ w ∈ lw_tbl, w.before #[Value.ref b] s = true := k2_hts_sels lw_privs (fun w hw => hts0 w (List.mem_cons_of_mem _ hw)) lw_privs_ok
    have hml : c.maxLocals = 7 := B.maxLocals_eq (hts0 _ List.mem_cons_self)
    have X₀ : Stand p l e room_1 s m #[Value.ref b] below meth c s₁ [] 0 0 := Stand.of_body B
    have hh0 : s₁.heap = s.heap := by rw [B.state]; rfl
    have hsz : scr.slots.size = xs.length := by rw [← Array.length_toList, hlist, List.length_map]
    have hval : ∀ j : Nat, j < xs.length → scr.slots[j]? = some (.int (xs.getD j 0)) := fun j hj => by
      rw [← Array.getElem?_toList, hlist]
      simp [hj]
    have hbl : b < s.heap.size := (Array.getElem?_eq_some_iff.mp hcb).1
    have hX : va_X b xs.length (fun j => xs.getD j 0) s s.heap := ⟨scr, hcb, hof, hkn, hsz, hval⟩
    have K : W p l e room_1 s m #[Value.ref b] below meth c s₁.heap [] 0 0 (lw_Z below #[Value.ref b] s) (entryFrame m ([Value.ref b] : List Value).toArray 7) := by
      rw [hh0]
      exact whole_start l hflags hbd ⟨B.exec, B.bytes, B.returns, hml, hown, hts, hX, hbl, B.notSynchronized, hgv⟩
    obtain ⟨t, a1, o, b1, b2, b3⟩ := K s₁ rfl X₀
    exact ⟨t, o, a1, b1, b2, b3⟩
theorem lw_pre_spec {args : Array Value} {s : State} (h : (Jvm.Cond.and given_1 narrow_1).before args s = true) (hr : rest_1_c.before args s = true) : ∃ (b : Addr) (xs : List Int32), lw_P b xs args s := by
  have hs := flat_of_before _ h
  have hq := flat_of_before _ hr
  have hc : (Cond.count 1).before args s = true := hs _ (by decide +kernel)
  have harr : (Cond.arrayOf (.arg 0) .int).before args s = true := hs _ (by decide +kernel)
  have hle : (Cond.le (.length (.arg 0)) (.int 1536)).before args s = true := hs _ (by decide +kernel)
  have hlen : (Cond.isInt (.length (.arg 0))).before args s = true := hq _ (by decide +kernel)
  have hall : (Cond.all (.arg 0) (.isInt (.elem (.arg 0) (.index 0)))).before args s = true := hq _ (by decide +kernel)
  obtain ⟨b, xs, hb, hx⟩ := State.ints_of_pre rfl harr hlen hall
  have hsm : xs.length < 2 ^ 31 := hx.choose_spec.2.2.2
  have hev : (Term.length (.arg 0)).eval args s none [] s = some (.int xs.length.toInt32) := hx.length_eval hb
  have hv := Cond.le_ints hev (show (Term.int 1536).eval args s none [] s = some (.int 1536) from rfl)
  have hd : xs.length.toInt32 ≤ 1536 := by
    simpa [Cond.before, Cond.holds, hv] using hle
  have hN : xs.length ≤ 1536 := (Int32.ofNat_le_ofNat hsm (by decide)).mp (show Int32.ofNat xs.length ≤ Int32.ofNat 1536 from hd)
  exact ⟨b, xs, Cond.one_arg hc (show args[0]? = some (.ref b) from hb), hx, hN, h⟩
theorem lw_comes (l : Launch) (hflags : l.flags = flags0) : Comes l x (Jvm.Cond.code x code maxLocals ret :: tables_1) room_1 (fun tb e args s => Calls_1 tb e args s ∧ rest_1 tb e args s ∧ Pre_1 tb e args s)
    (fun _ _ args s o t => lw_Q args s o t) := by
  intro p e ha hc hk s m args below hf hfit hheap happ hpre
  obtain ⟨b, xs, hP⟩ := lw_pre_spec hpre.2.2 hpre.2.1
  obtain ⟨k, o, h1, h2, h3, hQ⟩ := lw_walk l hflags b xs p e ha hc hk s m args below hf ((Spec.applies_iff_loose hf).mp happ).1 hP trivial
  exact ⟨k, o, h1, h2, h3, hQ⟩
theorem lw_frame {s t : State} {o : Outcome} {args : Array Value} (h : Framed s o t [] 601024 7293034) :
    Framed s o t (fieldLocs frame_1_writes args s ++ arrayLocs frame_1_arrays args s ++ staticLocs frame_1_statics s) 601024 7293034 := h
theorem lw_limb (L : Cond) (hL : ∀ (args : Array Value) (s t : State), L.after args s (.returned (some (.int 1))) t = true) :
    ArmFor flags0 classFile x code maxLocals ret World_1 tables_1 room_1 Calls_1 rest_1 Pre_1
      (fun tb e a s o t => postC L tb e a s o t ∧ Framed s o t (fieldLocs frame_1_writes a s ++ arrayLocs frame_1_arrays a s ++ staticLocs frame_1_statics s) 601024 7293034) := by
  intro l hflags _ _ p e ha hc hk s m args below hf hfit hheap happ hpre
  obtain ⟨k, o, h1, h2, h3, rfl, hF⟩ := lw_comes l hflags p e ha hc hk s m args below hf hfit hheap happ hpre
  exact ⟨k, _, h1, h2, h3, hL args s _, lw_frame hF⟩
theorem i_vc : Claimed_1_1 ∧ Claimed_1_2 := ⟨lw_limb limb_1_1 (fun args s t => by simp [limb_1_1, Cond.after, Cond.holds, Cond.value]), lw_limb limb_1_2 (fun args s t => Cond.after_iff.mpr (by
  first | (rw [show limb_1_2 = Cond.eq .result (.int 1) from rfl, Cond.eq_ints (x := 1) (y := 1) rfl rfl]; simp; done) | (simp [limb_1_2, Cond.value, Term.eval]; done)))⟩
