section
-- ===== PART A: goes FIRST, ahead of the names: the tables' words, and 'selects' of the private methods out of them =====
/-- a private method of a class that the tables say can be made, by its rows of tables_1 -/
def lw_okq (q : MethodName × Nat) : Prop := (q.1.cls ≠ "java/lang/invoke/MethodHandle" ∧ q.1.cls ≠ "java/lang/invoke/VarHandle") ∧ Cond.instantiable q.1.cls q.2 ∈ tables_1 ∧ Cond.privateMethod q.1 ∈ tables_1 ∧ Cond.instanceMethod q.1 ∈ tables_1
theorem lw_p0 : lw_okq (⟨"ArchivistTricks", "shuffle", "(J)V"⟩, 11) := ⟨⟨by decide +kernel, by decide +kernel⟩, List.mem_of_getElem? (i := 12) (by decide +kernel), List.mem_of_getElem? (i := 86) (by decide +kernel), List.mem_of_getElem? (i := 87) (by decide +kernel)⟩
theorem lw_p1 : lw_okq (⟨"ArchivistTricks", "exchange", "(II)V"⟩, 11) := ⟨⟨by decide +kernel, by decide +kernel⟩, List.mem_of_getElem? (i := 12) (by decide +kernel), List.mem_of_getElem? (i := 92) (by decide +kernel), List.mem_of_getElem? (i := 93) (by decide +kernel)⟩
theorem lw_p2 : lw_okq (⟨"ArchivistTricks", "putTurnedUpLast", "()V"⟩, 11) := ⟨⟨by decide +kernel, by decide +kernel⟩, List.mem_of_getElem? (i := 12) (by decide +kernel), List.mem_of_getElem? (i := 96) (by decide +kernel), List.mem_of_getElem? (i := 97) (by decide +kernel)⟩
theorem lw_p3 : lw_okq (⟨"ArchivistTricks", "handFrom", "(I)J"⟩, 11) := ⟨⟨by decide +kernel, by decide +kernel⟩, List.mem_of_getElem? (i := 12) (by decide +kernel), List.mem_of_getElem? (i := 103) (by decide +kernel), List.mem_of_getElem? (i := 104) (by decide +kernel)⟩
theorem lw_p4 : lw_okq (⟨"java/lang/Throwable", "fillInStackTrace", "(I)Ljava/lang/Throwable;"⟩, 6) := ⟨⟨by decide +kernel, by decide +kernel⟩, List.mem_of_getElem? (i := 162) (by decide +kernel), List.mem_of_getElem? (i := 160) (by decide +kernel), List.mem_of_getElem? (i := 161) (by decide +kernel)⟩
theorem lw_p5 : lw_okq (⟨"ArchivistTricks", "reasonAgainst", "(I)I"⟩, 11) := ⟨⟨by decide +kernel, by decide +kernel⟩, List.mem_of_getElem? (i := 12) (by decide +kernel), List.mem_of_getElem? (i := 192) (by decide +kernel), List.mem_of_getElem? (i := 193) (by decide +kernel)⟩
theorem lw_p6 : lw_okq (⟨"ArchivistTricks", "moversHand", "()J"⟩, 11) := ⟨⟨by decide +kernel, by decide +kernel⟩, List.mem_of_getElem? (i := 12) (by decide +kernel), List.mem_of_getElem? (i := 196) (by decide +kernel), List.mem_of_getElem? (i := 197) (by decide +kernel)⟩
theorem lw_p7 : lw_okq (⟨"ArchivistTricks", "archivist", "(I)LArchivistTricks$Archivist;"⟩, 11) := ⟨⟨by decide +kernel, by decide +kernel⟩, List.mem_of_getElem? (i := 12) (by decide +kernel), List.mem_of_getElem? (i := 200) (by decide +kernel), List.mem_of_getElem? (i := 201) (by decide +kernel)⟩
theorem lw_p8 : lw_okq (⟨"ArchivistTricks", "finishTrick", "(I)I"⟩, 11) := ⟨⟨by decide +kernel, by decide +kernel⟩, List.mem_of_getElem? (i := 12) (by decide +kernel), List.mem_of_getElem? (i := 235) (by decide +kernel), List.mem_of_getElem? (i := 236) (by decide +kernel)⟩
theorem lw_p9 : lw_okq (⟨"ArchivistTricks", "takerBy", "(I)I"⟩, 11) := ⟨⟨by decide +kernel, by decide +kernel⟩, List.mem_of_getElem? (i := 12) (by decide +kernel), List.mem_of_getElem? (i := 239) (by decide +kernel), List.mem_of_getElem? (i := 240) (by decide +kernel)⟩
theorem lw_p10 : lw_okq (⟨"ArchivistTricks", "drawFor", "(LArchivistTricks$Archivist;)V"⟩, 11) := ⟨⟨by decide +kernel, by decide +kernel⟩, List.mem_of_getElem? (i := 12) (by decide +kernel), List.mem_of_getElem? (i := 253) (by decide +kernel), List.mem_of_getElem? (i := 254) (by decide +kernel)⟩
theorem lw_p11 : lw_okq (⟨"ArchivistTricks", "endGame", "()V"⟩, 11) := ⟨⟨by decide +kernel, by decide +kernel⟩, List.mem_of_getElem? (i := 12) (by decide +kernel), List.mem_of_getElem? (i := 257) (by decide +kernel), List.mem_of_getElem? (i := 258) (by decide +kernel)⟩
def lw_privs_1 : List (MethodName × Nat) := [(⟨"ArchivistTricks", "shuffle", "(J)V"⟩, 11), (⟨"ArchivistTricks", "exchange", "(II)V"⟩, 11), (⟨"ArchivistTricks", "putTurnedUpLast", "()V"⟩, 11), (⟨"ArchivistTricks", "handFrom", "(I)J"⟩, 11), (⟨"java/lang/Throwable", "fillInStackTrace", "(I)Ljava/lang/Throwable;"⟩, 6), (⟨"ArchivistTricks", "reasonAgainst", "(I)I"⟩, 11), (⟨"ArchivistTricks", "moversHand", "()J"⟩, 11), (⟨"ArchivistTricks", "archivist", "(I)LArchivistTricks$Archivist;"⟩, 11), (⟨"ArchivistTricks", "finishTrick", "(I)I"⟩, 11), (⟨"ArchivistTricks", "takerBy", "(I)I"⟩, 11), (⟨"ArchivistTricks", "drawFor", "(LArchivistTricks$Archivist;)V"⟩, 11), (⟨"ArchivistTricks", "endGame", "()V"⟩, 11)]
theorem lw_r1 : ∀ q ∈ lw_privs_1, lw_okq q := List.forall_mem_cons.mpr ⟨lw_p0, List.forall_mem_cons.mpr ⟨lw_p1, List.forall_mem_cons.mpr ⟨lw_p2, List.forall_mem_cons.mpr ⟨lw_p3, List.forall_mem_cons.mpr ⟨lw_p4, List.forall_mem_cons.mpr ⟨lw_p5, List.forall_mem_cons.mpr ⟨lw_p6, List.forall_mem_cons.mpr ⟨lw_p7, List.forall_mem_cons.mpr ⟨lw_p8, List.forall_mem_cons.mpr ⟨lw_p9, List.forall_mem_cons.mpr ⟨lw_p10, List.forall_mem_cons.mpr ⟨lw_p11, fun _ h => absurd h List.not_mem_nil⟩⟩⟩⟩⟩⟩⟩⟩⟩⟩⟩⟩
def lw_privs : List (MethodName × Nat) := lw_privs_1
def lw_tbl : List Cond := k2_sels lw_privs ++ tables_1
theorem lw_privs_ok : ∀ q ∈ lw_privs, lw_okq q := lw_r1

/-! ===== BEGIN words of one list among another's, by their places ===== -/
theorem goodIn_r {big : List Cond} (ws : List Cond) (ps : List Nat) (hp : ws = ps.filterMap (fun i => big[i]?)) (h : ws.all goodWord = true) : GoodIn big ws := by
  intro w hw
  have h1 := List.all_eq_true.mp h w hw
  rw [hp] at hw
  obtain ⟨i, -, hi⟩ := List.mem_filterMap.mp hw
  have hm : w ∈ big := by first | exact List.mem_of_getElem? hi | exact List.getElem?_mem hi
  exact ⟨hm, good_of_word h1⟩
theorem goodIn_app {big a b : List Cond} (ha : GoodIn big a) (hb : GoodIn big b) : GoodIn big (a ++ b) := fun w h => (List.mem_append.mp h).elim (ha w) (hb w)
theorem goodIn_ca {big a b : List Cond} {c : Cond} (ha : GoodIn big (c :: a)) (hb : GoodIn big b) : GoodIn big (c :: (a ++ b)) := fun w h => (List.mem_cons.mp h).elim (fun e => ha w (List.mem_cons.mpr (Or.inl e))) (fun h => (List.mem_append.mp h).elim (fun h => ha w (List.mem_cons.mpr (Or.inr h))) (hb w))
theorem goodIn_sub {big ws : List Cond} (hm : ∀ w ∈ ws, w ∈ big) (h : ws.all goodWord = true) : GoodIn big ws := fun w hw => ⟨hm w hw, good_of_word (List.all_eq_true.mp h w hw)⟩
/-! ===== END ===== -/

/-! ===== BEGIN exceptions that leave a method, and their catching by the caller (launches without stack traces) ===== -/
section VXA
/-! The laws vx_back, vx_callV, vx_callS, vx_callSW, vx_throw0, vx_throwS follow proofs of the library, with one case more: JvmDerived/Free/Laws.lean (Back.of_free), Shelf42/LK1.lean (callV, callS), Shelf/KitTraced.lean (throwNew0V, throwNewS). -/
/-- where a method has thrown q: the class by its name, the cell, what was written, the world -/
def vx_T (XC : String → State → State → Prop) (st : State) (q : Addr) (t : State) (mc ms : Nat) (free : Addr → Prop) : Prop :=
  ∃ (E : String) (ce : Cell) (L : List Loc), XC E st t ∧ t.heap[q]? = some ce ∧ ce.vm = .none ∧ st.vm.findClass E = some ce.cls ∧ st.WarmedH t.vm ∧ st.sameButNew ({ t with vm := st.vm } : State) L mc ms ∧ ∀ z ∈ L, free z.base
def vx_Q (Qc : Array Value → State → Outcome → State → Prop) (XC : String → State → State → Prop) (mc ms : Nat) (free : Addr → Prop) : Array Value → State → Outcome → State → Prop := fun a st o t =>
  (Qc a st o t ∧ ∃ L, FrameEnd st o t L mc ms ∧ ∀ q ∈ L, free q.base) ∨ ∃ q, o = .threw q ∧ vx_T XC st q t mc ms free
/-- a callee that returns or throws -/
def vx_Met (l : Launch) (y : MethodName) (ws : List Cond) (rm : Room) (Pc : Array Value → State → Prop) (Qc : Array Value → State → Outcome → State → Prop) (XC : String → State → State → Prop) (mc ms : Nat) (free : Addr → Prop) : Prop :=
  MetFree l y (headSpec ws rm) Pc (fun _ _ _ _ _ => True) (vx_Q Qc XC mc ms free)
def vx_Post (XC : String → State → State → Prop) (mc ms : Nat) (free : Addr → Prop) : Pt → Array Value → Addr → Pt → Prop := fun A a q B =>
  ∃ (g : JFrame) (mk : MethodId) (t : State) (L : List Loc) (E : String) (ce : Cell), B.U.heap = t.heap ∧ B.U.vm = t.vm ∧ XC E (A.U.calling g mk a) t ∧ t.heap[q]? = some ce ∧ ce.vm = .none ∧ A.U.vm.findClass E = some ce.cls ∧ B.locs = A.locs ++ L ∧ (∀ z ∈ L, free z.base) ∧ B.cells = A.cells + mc ∧ B.slots = A.slots + ms
def vx_Back (l : Launch) (R : Room) (p : Program) (e : Env) (below : List Frame) (s : State) (sargs : Array Value) (y : MethodName) (len W9 : Nat)
    (Pre : Pt → Array Value → Prop) (Post : Pt → Array Value → Option Value → Pt → Prop) (PostX : Pt → Array Value → Addr → Pt → Prop) : Prop :=
  ∀ (m : MethodId) (meth : Method) (c : Code) (A : Pt) (g : JFrame) (ig : Instr) (mk : MethodId) (a : Array Value),
    Stand p l e R s m sargs below meth c A.U A.locs A.cells A.slots → g.method = m → g.locals.size = c.maxLocals → decode c.code g.pc = .ok (ig, len) →
    2 * g.monitorRoom + (g.stack.map fun v => v.category).sum ≤ W9 → A.U.methodNamed? y = some mk → Pre A a →
    (∃ (v : Option Value) (B : Pt), Stand p l e R s m sargs below meth c B.U B.locs B.cells B.slots ∧ Post A a v B ∧
      Steps p.tables e below (doInvoke e (A.U.setTop g) [] mk a).1 (B.U.setTop { g with pc := g.pc + len, stack := v.toList ++ g.stack })) ∨
    (∃ (q : Addr) (B : Pt), Stand p l e R s m sargs below meth c B.U B.locs B.cells B.slots ∧ PostX A a q B ∧
      Steps p.tables e below (doInvoke e (A.U.setTop g) [] mk a).1 ((B.U.setTop g).pushFrame (.throwing q)))
section Payer
variable {l : Launch} {R : Room} {p : Program} {e : Env} {below : List Frame} {s : State} {sargs : Array Value} {y : MethodName} {len W9 : Nat}
theorem vx_back {ws : List Cond} {rm : Room} {Pc : Array Value → State → Prop} {Qc : Array Value → State → Outcome → State → Prop} {XC : String → State → State → Prop} {mc ms : Nat} {free : Addr → Prop} {bytes : ByteArray} {maxL : Nat} {ret : Option FieldType}
    (hM : vx_Met l y ws rm Pc Qc XC mc ms free) (hblind : FrameBlind Pc) (hrc : rm.cells = mc) (hrs : rm.slots = ms)
    (hframes : rm.frames + 1 ≤ R.frames) (hlocals : W9 + (maxL + 11) + rm.locals ≤ R.locals)
    (hws : ∀ w ∈ ws, ∀ a' U, s.WarmedH U.vm → w.before a' U = true) (hcode : Cond.code y bytes maxL ret ∈ ws) (hinit : ∀ a' U, s.WarmedH U.vm → (Cond.initialized y.cls).before a' U = true) :
    vx_Back l R p e below s sargs y len W9 (PreOf R mc ms Pc) (PostOf Qc mc ms free) (vx_Post XC mc ms free) := by
  intro m meth c A g ig mk a X hg hsize hdg hW hn hp
  have h1 : (headSpec ws rm).pre.before a A.U = true := atoms_intro fun w hw => hws w hw _ _ X.warmed
  have h2 : (Cond.code y bytes maxL ret).before a A.U = true := hws _ hcode _ _ X.warmed
  have h3 : (Cond.initialized y.cls).before a A.U = true := hinit _ _ X.warmed
  have h4 : A.cells + (headSpec ws rm).room.cells ≤ R.cells := by rw [show (headSpec ws rm).room.cells = mc from hrc]; exact hp.1
  have h5 : A.slots + (headSpec ws rm).room.slots ≤ R.slots := by rw [show (headSpec ws rm).room.slots = ms from hrs]; exact hp.2.1
  have hPc : Pc a (A.U.calling g mk a) := hblind _ _ _ _ hp.2.2
  obtain ⟨U, Ls, c0, s0⟩ := A
  dsimp only [Pt.U, Pt.locs, Pt.cells, Pt.slots] at h1 h2 h3 h4 h5 X hn hPc ⊢
  obtain ⟨methY, cY, hmY, hcY, -, hlY, -, -, -, -⟩ := Cond.code_spec hn h2
  obtain ⟨kY, hkY, -⟩ := className_of_methodNamed hn
  have hinitY : kY.init = .initialized := Cond.initialized_spec (findClass_of_methodNamed hn) hkY h3
  have h : At U g.method c below := by rw [hg]; exact X.here
  have hlocals9 : W9 + (maxL + 11) + (headSpec ws rm).room.locals ≤ R.locals := hlocals
  have happ : (headSpec ws rm).appliesLoose y e.platform (U.calling g mk a) = true :=
    Spec.appliesLoose_calling (g := g) h hdg hn hkY hinitY
      (X.room_calling (g := g) (R' := (headSpec ws rm).room) hsize hmY hcY hframes (by rw [hlY]; omega) h4 h5) h1
  obtain ⟨mid, hmid⟩ := h.above
  have hfr : (U.setTop g).frames = (.java g :: mid) ++ below := by rw [State.frames_setTop' g h.top, hmid]; rfl
  obtain ⟨o, s₂, hsteps, -, hend, hq⟩ := Steps.callFree hM p X.admits X.cas X.clock (acts := []) hfr happ hPc trivial
  have hq' : vx_Q Qc XC mc ms free a (U.calling g mk a) o s₂ := hq
  rw [State.frames_setTop' g h.top] at hend
  obtain ⟨g₀, hg0⟩ := Option.isSome_iff_exists.mp h.top
  obtain ⟨r, hr⟩ := State.topJava?_eq_some.mp hg0
  have hr' : (({ U with heap := s₂.heap, slotsUsed := s₂.slotsUsed } : State).setVm s₂.vm).frames = .java g₀ :: r := hr
  rcases hq' with ⟨hqc, L, hfe, hL⟩ | ⟨q, rfl, E, ce, L, hx, hce, hcv, hcl, hW₂, hsm, hL⟩
  · obtain ⟨⟨v, rfl⟩, hW₂, e2, q2, q3, q4, q5, q6⟩ := id hfe
    have e3 : s₂ = ({ (U.calling g mk a).setFrames s₂.frames with heap := s₂.heap, slotsUsed := s₂.slotsUsed } : State).setVm s₂.vm := by
      have : s₂ = ({ s₂ with vm := (U.calling g mk a).vm } : State).setVm s₂.vm := rfl
      rw [e2] at this
      exact this
    obtain ⟨c₂, i₂, len₂, hc₂, hd₂, hf₂⟩ := hend
    have hW' : U.WarmedH s₂.vm := hW₂
    have hcc : c₂ = c := by
      have h1 : s₂.code? g.method = U.code? g.method := by
        rw [State.code?_eq, State.code?_eq, hW'.alike.method?]
      exact Option.some.inj (hc₂.symm.trans (h1.trans h.code))
    subst hcc
    have hlen : len₂ = len := by rw [hdg] at hd₂; cases hd₂; rfl
    subst hlen
    have hs₂ : s₂ = (({ U with heap := s₂.heap, slotsUsed := s₂.slotsUsed } : State).setVm s₂.vm).setTop { g with pc := g.pc + len₂, stack := v.toList ++ g.stack } := by
      refine e3.trans ?_
      rw [hf₂, State.calling_eq h.top, State.setFrames_setFrames, State.setTop_of_frames _ hr', hr]
      rfl
    have hsame : U.sameButNew ({ U with heap := s₂.heap, slotsUsed := s₂.slotsUsed } : State) L mc ms := by
      refine ⟨?_, q2, q3, q4, q5, q6⟩
      obtain ⟨t, ht, -⟩ := State.frames_cons hr
      show ({ U with heap := s₂.heap, slotsUsed := s₂.slotsUsed } : State) = { U.setFrames U.frames with heap := s₂.heap, slotsUsed := s₂.slotsUsed }
      rw [State.setFrames_self ht]
    subst hg
    refine Or.inl ⟨v, ⟨(({ U with heap := s₂.heap, slotsUsed := s₂.slotsUsed } : State).setVm s₂.vm), Ls ++ L, c0 + mc, s0 + ms⟩,
      ⟨X.admits, X.cas, X.clock, X.frames, X.room, X.hears, X.method, X.code, (X.here.setHeapUsed s₂.heap s₂.slotsUsed).setVm hW'.alike, X.tail, State.WarmedH.trans X.warmed hW', X.limits, X.bytes, X.same.trans (hsame.setVm s.vm)⟩,
      ⟨g, mk, s₂, L, rfl, rfl, hqc, rfl, hL, rfl, rfl⟩, ?_⟩
    show Steps p.tables e below _ ((({ U with heap := s₂.heap, slotsUsed := s₂.slotsUsed } : State).setVm s₂.vm).setTop { g with pc := g.pc + len₂, stack := v.toList ++ g.stack })
    rw [← hs₂]
    exact hsteps
  · obtain ⟨e2, q2, q3, q4, q5, q6⟩ := id hsm
    have e3 : s₂ = ({ (U.calling g mk a).setFrames s₂.frames with heap := s₂.heap, slotsUsed := s₂.slotsUsed } : State).setVm s₂.vm := by
      have : s₂ = ({ s₂ with vm := (U.calling g mk a).vm } : State).setVm s₂.vm := rfl
      rw [e2] at this
      exact this
    have hf₂ : s₂.frames = .throwing q :: .java g :: U.frames.tail := hend
    have hW' : U.WarmedH s₂.vm := hW₂
    have hs₂ : s₂ = ((({ U with heap := s₂.heap, slotsUsed := s₂.slotsUsed } : State).setVm s₂.vm).setTop g).pushFrame (.throwing q) := by
      refine e3.trans ?_
      rw [hf₂, State.calling_eq h.top, State.setFrames_setFrames, State.pushFrame, State.frames_setTop _ hr', State.setTop_of_frames _ hr', State.setFrames_setFrames, hr]
      rfl
    have hsame : U.sameButNew ({ U with heap := s₂.heap, slotsUsed := s₂.slotsUsed } : State) L mc ms := by
      refine ⟨?_, q2, q3, q4, q5, q6⟩
      obtain ⟨t, ht, -⟩ := State.frames_cons hr
      show ({ U with heap := s₂.heap, slotsUsed := s₂.slotsUsed } : State) = { U.setFrames U.frames with heap := s₂.heap, slotsUsed := s₂.slotsUsed }
      rw [State.setFrames_self ht]
    subst hg
    refine Or.inr ⟨q, ⟨(({ U with heap := s₂.heap, slotsUsed := s₂.slotsUsed } : State).setVm s₂.vm), Ls ++ L, c0 + mc, s0 + ms⟩,
      ⟨X.admits, X.cas, X.clock, X.frames, X.room, X.hears, X.method, X.code, (X.here.setHeapUsed s₂.heap s₂.slotsUsed).setVm hW'.alike, X.tail, State.WarmedH.trans X.warmed hW', X.limits, X.bytes, X.same.trans (hsame.setVm s.vm)⟩,
      ⟨g, mk, s₂, L, E, ce, rfl, rfl, hx, hce, hcv, hcl, rfl, hL, rfl, rfl⟩, ?_⟩
    show Steps p.tables e below _ (((({ U with heap := s₂.heap, slotsUsed := s₂.slotsUsed } : State).setVm s₂.vm).setTop g).pushFrame (.throwing q))
    rw [← hs₂]
    exact hsteps
end Payer
section Calls
variable {p : Program} {l : Launch} {e : Env} {R : Room} {s : State} {m : MethodId} {args : Array Value} {below : List Frame} {meth : Method} {c : Code} {T : State} {locs : List Loc} {cells slots : Nat}
theorem vx_callV (X : Stand p l e R s m args below meth c T locs cells slots) (hexec : p.tables.exec = Jvm.exec) {own C : String} {index : Nat} {y : MethodName} {bytes : ByteArray} {maxL : Nat} {ret : Option FieldType}
    (hown : s.vm.findClass own = some m.cls) (hlink : (Cond.methodLink own index y).before args s = true) (hinst : (Cond.instanceMethod y).before args s = true) (hsel : (Cond.selects C y y).before args s = true)
    (hcode : (Cond.code y bytes maxL ret).before args s = true) (hy : y.cls ≠ "java/lang/invoke/MethodHandle" ∧ y.cls ≠ "java/lang/invoke/VarHandle")
    {W9 : Nat} {Pre : Pt → Array Value → Prop} {Post : Pt → Array Value → Option Value → Pt → Prop} {PostX : Pt → Array Value → Addr → Pt → Prop} (hK : vx_Back l R p e below s args y 3 W9 Pre Post PostX)
    {b : Addr} {cellB : Cell} (hcell : T.heap[b]? = some cellB) (hobj : cellB.vm.isStatics = false) (hcls : s.vm.findClass C = some cellB.cls)
    {g : JFrame} (hg : g.method = m) (hsize : g.locals.size = c.maxLocals) {argsL rest : List Value} (hlen : ∀ sig, parseMethodDescriptor y.desc = some sig → argsL.length = sig.parameters.length)
    (hstack : g.stack = argsL.reverse ++ .ref b :: rest) (hW : 2 * g.monitorRoom + (rest.map fun v => v.category).sum ≤ W9) (hdg : decode c.code g.pc = .ok (.invokevirtual index, 3))
    (hpre : ∀ vm₁, s.WarmedH vm₁ → Pre ⟨T.setVm vm₁, locs, cells, slots⟩ (Value.ref b :: argsL).toArray) :
    (∃ (v : Option Value) (vm₁ : Vm) (B : Pt), s.WarmedH vm₁ ∧ Stand p l e R s m args below meth c B.U B.locs B.cells B.slots ∧ Post ⟨T.setVm vm₁, locs, cells, slots⟩ (Value.ref b :: argsL).toArray v B ∧
      ∀ target, Steps p.tables e below (B.U.setTop { g with pc := g.pc + 3, stack := v.toList ++ rest }) target → Steps p.tables e below (T.setTop g) target) ∨
    (∃ (q : Addr) (vm₁ : Vm) (B : Pt), s.WarmedH vm₁ ∧ Stand p l e R s m args below meth c B.U B.locs B.cells B.slots ∧ PostX ⟨T.setVm vm₁, locs, cells, slots⟩ (Value.ref b :: argsL).toArray q B ∧
      Steps p.tables e below (T.setTop g) ((B.U.setTop { g with stack := rest }).pushFrame (.throwing q))) := by
  obtain ⟨mk, methM, hnamed, hmethM, hstM, habM⟩ := Cond.instanceMethod_spec hinst
  obtain ⟨methM', cM, hmethM', -, -, -, -, -, -, hsigM⟩ := Cond.code_spec hnamed hcode
  cases hmethM.symm.trans hmethM'
  obtain ⟨c2, r2, m2, q1, q2, q3, q4, kP, hkP, hkPi⟩ := Cond.selects_spec hsel
  cases hcls.symm.trans q1
  cases (State.methodFound?_of_named hnamed hy).symm.trans q2
  cases hnamed.symm.trans q3
  have hselP : selectMethod e.platform s.vm cellB.cls mk = .method mk := by rw [Launch.admits_selectMethod X.admits]; exact q4
  obtain ⟨vm₁, X₁, hstep₁⟩ := X.invokevirtual hexec hown hlink hnamed hmethM hstM hkP hkPi hy (a := b) (cell := cellB) hcell
    (fun z h => by rw [h] at hobj; cases hobj) hselP hmethM habM hkP hkPi (g := g) hg (argsL := argsL) (rest := rest) (hlen _ hsigM) hstack hdg
  rcases hK m meth c ⟨T.setVm vm₁, locs, cells, slots⟩ { g with stack := rest } (.invokevirtual index) mk (Value.ref b :: argsL).toArray X₁ hg hsize hdg hW (X₁.named hnamed) (hpre vm₁ X₁.warmed) with ⟨v, B, X', hpost, hsteps⟩ | ⟨q, B, X', hpost, hsteps⟩
  · exact Or.inl ⟨v, vm₁, B, X₁.warmed, X', hpost, fun target h => hstep₁ _ fun acts => by rw [doInvoke_state]; exact hsteps.trans h⟩
  · exact Or.inr ⟨q, vm₁, B, X₁.warmed, X', hpost, hstep₁ _ fun acts => by rw [doInvoke_state]; exact hsteps⟩
theorem vx_callS (X : Stand p l e R s m args below meth c T locs cells slots) (hexec : p.tables.exec = Jvm.exec) {own : String} {index : Nat} {y : MethodName} {bytes : ByteArray} {maxL : Nat} {ret : Option FieldType}
    (hown : s.vm.findClass own = some m.cls) (hlink : (Cond.methodLink own index y).before args s = true) (hstat : (Cond.static y).before args s = true) (hinit : (Cond.initialized y.cls).before args s = true)
    (hcode : (Cond.code y bytes maxL ret).before args s = true) (hy : y.cls ≠ "java/lang/invoke/MethodHandle" ∧ y.cls ≠ "java/lang/invoke/VarHandle")
    {W9 : Nat} {Pre : Pt → Array Value → Prop} {Post : Pt → Array Value → Option Value → Pt → Prop} {PostX : Pt → Array Value → Addr → Pt → Prop} (hK : vx_Back l R p e below s args y 3 W9 Pre Post PostX)
    {g : JFrame} (hg : g.method = m) (hsize : g.locals.size = c.maxLocals) {argsL rest : List Value} (hlen : ∀ sig, parseMethodDescriptor y.desc = some sig → argsL.length = sig.parameters.length)
    (hstack : g.stack = argsL.reverse ++ rest) (hW : 2 * g.monitorRoom + (rest.map fun v => v.category).sum ≤ W9) (hdg : decode c.code g.pc = .ok (.invokestatic index, 3))
    (hpre : ∀ vm₁, s.WarmedH vm₁ → Pre ⟨T.setVm vm₁, locs, cells, slots⟩ argsL.toArray) :
    (∃ (v : Option Value) (vm₁ : Vm) (B : Pt), s.WarmedH vm₁ ∧ Stand p l e R s m args below meth c B.U B.locs B.cells B.slots ∧ Post ⟨T.setVm vm₁, locs, cells, slots⟩ argsL.toArray v B ∧
      ∀ target, Steps p.tables e below (B.U.setTop { g with pc := g.pc + 3, stack := v.toList ++ rest }) target → Steps p.tables e below (T.setTop g) target) ∨
    (∃ (q : Addr) (vm₁ : Vm) (B : Pt), s.WarmedH vm₁ ∧ Stand p l e R s m args below meth c B.U B.locs B.cells B.slots ∧ PostX ⟨T.setVm vm₁, locs, cells, slots⟩ argsL.toArray q B ∧
      Steps p.tables e below (T.setTop g) ((B.U.setTop { g with stack := rest }).pushFrame (.throwing q))) := by
  obtain ⟨mk, hnamed⟩ := Cond.code_named hcode
  obtain ⟨methM, cM, hmethM, -, -, -, -, -, -, hsigM⟩ := Cond.code_spec hnamed hcode
  have hstatic : methM.isStatic = true := Cond.static_spec hnamed hmethM hstat
  obtain ⟨kP, hkP, -⟩ := className_of_methodNamed hnamed
  have hinitP : kP.init = .initialized := Cond.initialized_spec (findClass_of_methodNamed hnamed) hkP hinit
  obtain ⟨vm₁, X₁, hstep₁⟩ := X.invokestatic hexec hown hlink hnamed hmethM hstatic hkP hinitP hy (g := g) hg (argsL := argsL) (rest := rest) (hlen _ hsigM) hstack hdg
  rcases hK m meth c ⟨T.setVm vm₁, locs, cells, slots⟩ { g with stack := rest } (.invokestatic index) mk argsL.toArray X₁ hg hsize hdg hW (X₁.named hnamed) (hpre vm₁ X₁.warmed) with ⟨v, B, X', hpost, hsteps⟩ | ⟨q, B, X', hpost, hsteps⟩
  · exact Or.inl ⟨v, vm₁, B, X₁.warmed, X', hpost, fun target h => hstep₁ _ fun acts => by rw [doInvoke_state]; exact hsteps.trans h⟩
  · exact Or.inr ⟨q, vm₁, B, X₁.warmed, X', hpost, hstep₁ _ fun acts => by rw [doInvoke_state]; exact hsteps⟩
end Calls
theorem vx_cls {s : State} {T : State} {vm₁ : Vm} {E : String} {k : ClassId} (hW : s.WarmedH vm₁) (h : (T.setVm vm₁).vm.findClass E = some k) : s.vm.findClass E = some k := by
  have h1 : vm₁.findClass E = some k := h
  rw [hW.alike.findClass] at h1
  exact h1
/-- the method's frame g, with q thrown over it -/
def vx_W (p : Program) (l : Launch) (e : Env) (R : Room) (s : State) (m : MethodId) (args : Array Value) (below : List Frame) (meth : Method) (c : Code) (H : Heap) (locs : List Loc) (cells slots : Nat) (Q : State → Prop) (g : JFrame) (q : Addr) : Prop :=
  ∀ T : State, T.heap = H → Stand p l e R s m args below meth c T locs cells slots → ∃ t, Steps p.tables e below ((T.setTop g).pushFrame (.throwing q)) t ∧ Q t
def vx_Run (p : Program) (l : Launch) (e : Env) (R : Room) (s : State) (m : MethodId) (args : Array Value) (below : List Frame) (meth : Method) (c : Code) (H : Heap) (locs : List Loc) (cells slots mc ms : Nat) (g : JFrame) (rest : List Value) (Qa : State → Outcome → State → Prop) (XC : String → State → State → Prop) (free : Addr → Prop) : Prop :=
  ∀ T : State, T.heap = H → Stand p l e R s m args below meth c T locs cells slots →
    (∃ (v : Option Value) (st₀ t T' : State) (L : List Loc), st₀.heap = H ∧ Stand p l e R s m args below meth c T' (locs ++ L) (cells + mc) (slots + ms) ∧ (∀ q ∈ L, free q.base) ∧ T'.heap = t.heap ∧ T'.vm = t.vm ∧ Qa st₀ (.returned v) t ∧
      Goes p e below T g T' { g with pc := g.pc + 3, stack := v.toList ++ rest }) ∨
    (∃ (q : Addr) (st₀ t T' : State) (L : List Loc) (E : String) (ce : Cell), st₀.heap = H ∧ Stand p l e R s m args below meth c T' (locs ++ L) (cells + mc) (slots + ms) ∧ (∀ z ∈ L, free z.base) ∧ T'.heap = t.heap ∧ T'.vm = t.vm ∧ XC E st₀ t ∧ t.heap[q]? = some ce ∧ ce.vm = .none ∧ s.vm.findClass E = some ce.cls ∧
      Steps p.tables e below (T.setTop g) ((T'.setTop { g with stack := rest }).pushFrame (.throwing q)))
def vx_X {S : Type} (px : S → Prop) (B : String → S → State → Prop) (A : Nat → Prop) : String → State → State → Prop := fun E st t => ∃ u : S, px u ∧ B E u t ∧ va_F A st t
section Runs
variable {p : Program} {l : Launch} {e : Env} {R : Room} {s : State} {m : MethodId} {args : Array Value} {below : List Frame} {meth : Method} {c : Code} {H : Heap} {locs : List Loc} {cells slots : Nat}
variable {y : MethodName} {bytes cc : ByteArray} {maxL nL mc ms n index : Nat} {ret : Option FieldType} {ws : List Cond} {rm : Room} {Pc : Array Value → State → Prop} {Qc : Array Value → State → Outcome → State → Prop} {XC : String → State → State → Prop} {free : Addr → Prop} {Ts : List Cond} {own C : String} {b : Addr} {As rest : List Value} {g : JFrame}
theorem vx_callBack (cb : CallB R s args own index y bytes maxL ret ws rm mc ms n) (hM : vx_Met l y ws rm Pc Qc XC mc ms free) (hbl : FrameBlind Pc) : vx_Back l R p e below s args y 3 8 (PreOf R mc ms Pc) (PostOf Qc mc ms free) (vx_Post XC mc ms free) := by
  obtain ⟨hrc, hrs, hfr, hlo, hws, hcw, -, hini, -⟩ := cb
  exact vx_back (bytes := bytes) (maxL := maxL) (ret := ret) hM hbl hrc hrs hfr hlo hws hcw (fun a' U hW => word_at hW (Or.inl (by first | rfl | simp [Cond.onTables, Cond.keeps, Cond.steady])) hini)
theorem vx_runV (S : CallFix p m c cc nL s args Ts own) (hM : vx_Met l y ws rm Pc Qc XC mc ms free) (cw : CallW R s args own C index y bytes maxL ret ws rm mc ms n) (hp : PreV s H C b Pc As)
    (hg : g.method = m) (hn : As.length = n) (hsize : g.locals.size = nL) (hstack : g.stack = As.reverse ++ .ref b :: rest) (hW : 2 * g.monitorRoom + (rest.map fun v => v.category).sum ≤ 8) (hdg : decode cc g.pc = .ok (.invokevirtual index, 3)) (hf : cells + mc ≤ R.cells ∧ slots + ms ≤ R.slots) :
    vx_Run p l e R s m args below meth c H locs cells slots mc ms g rest (Qc (Value.ref b :: As).toArray) XC free := by
  have hK : vx_Back l R p e below s args y 3 8 (PreOf R mc ms Pc) (PostOf Qc mc ms free) (vx_Post XC mc ms free) := vx_callBack cw.1 hM hp.1
  obtain ⟨⟨-, -, -, -, -, -, hcode, -, hy, hlen, hl⟩, hin, hse⟩ := cw
  obtain ⟨hx, hb, hml, ho, -⟩ := S
  obtain ⟨-, ⟨cellB, hcB, hoB, hclB⟩, hPc⟩ := hp
  intro T hT X
  rcases vx_callV X hx (C := C) (bytes := bytes) (maxL := maxL) (ret := ret) ho hl hin hse hcode hy hK (by rw [hT]; exact hcB) hoB hclB hg (hsize.trans hml.symm) (argsL := As) (rest := rest) (fun sig h => hn.trans (hlen sig h)) hstack hW (by rw [hb]; exact hdg)
    (fun vm₁ hW₁ => ⟨hf.1, hf.2, hPc (T.setVm vm₁) hT hW₁⟩) with ⟨v, vm₁, ⟨U', l2, c2, s2⟩, hW₁, X', ⟨g', mk, t, L, e1, e2, hq, h1, hL, h2, h3⟩, st⟩ | ⟨q, vm₁, ⟨U', l2, c2, s2⟩, hW₁, X', ⟨g', mk, t, L, E, ce, e1, e2, hq, hce, hcv, hcl, h1, hL, h2, h3⟩, st⟩
  · dsimp only [Pt.U, Pt.locs, Pt.cells, Pt.slots] at X' e1 e2 h1 h2 h3 st
    subst h1; subst h2; subst h3
    exact Or.inl ⟨v, (T.setVm vm₁).calling g' mk (Value.ref b :: As).toArray, t, U', L, hT, X', hL, e1, e2, hq, st⟩
  · dsimp only [Pt.U, Pt.locs, Pt.cells, Pt.slots] at X' e1 e2 h1 h2 h3 st hcl
    subst h1; subst h2; subst h3
    exact Or.inr ⟨q, (T.setVm vm₁).calling g' mk (Value.ref b :: As).toArray, t, U', L, E, ce, hT, X', hL, e1, e2, hq, hce, hcv, vx_cls hW₁ hcl, st⟩
theorem vx_runS (S : CallFix p m c cc nL s args Ts own) (hM : vx_Met l y ws rm Pc Qc XC mc ms free) (cw : CallB R s args own index y bytes maxL ret ws rm mc ms n ∧ (Cond.static y).before args s = true) (hp : PreS s H Pc As)
    (hg : g.method = m) (hn : As.length = n) (hsize : g.locals.size = nL) (hstack : g.stack = As.reverse ++ rest) (hW : 2 * g.monitorRoom + (rest.map fun v => v.category).sum ≤ 8) (hdg : decode cc g.pc = .ok (.invokestatic index, 3)) (hf : cells + mc ≤ R.cells ∧ slots + ms ≤ R.slots) :
    vx_Run p l e R s m args below meth c H locs cells slots mc ms g rest (Qc As.toArray) XC free := by
  have hK : vx_Back l R p e below s args y 3 8 (PreOf R mc ms Pc) (PostOf Qc mc ms free) (vx_Post XC mc ms free) := vx_callBack cw.1 hM hp.1
  obtain ⟨⟨-, -, -, -, -, -, hcode, hini, hy, hlen, hl⟩, hstt⟩ := cw
  obtain ⟨hx, hb, hml, ho, -⟩ := S
  intro T hT X
  rcases vx_callS X hx (bytes := bytes) (maxL := maxL) (ret := ret) ho hl hstt hini hcode hy hK hg (hsize.trans hml.symm) (argsL := As) (rest := rest) (fun sig h => hn.trans (hlen sig h)) hstack hW (by rw [hb]; exact hdg)
    (fun vm₁ hW₁ => ⟨hf.1, hf.2, hp.2 (T.setVm vm₁) hT hW₁⟩) with ⟨v, vm₁, ⟨U', l2, c2, s2⟩, hW₁, X', ⟨g', mk, t, L, e1, e2, hq, h1, hL, h2, h3⟩, st⟩ | ⟨q, vm₁, ⟨U', l2, c2, s2⟩, hW₁, X', ⟨g', mk, t, L, E, ce, e1, e2, hq, hce, hcv, hcl, h1, hL, h2, h3⟩, st⟩
  · dsimp only [Pt.U, Pt.locs, Pt.cells, Pt.slots] at X' e1 e2 h1 h2 h3 st
    subst h1; subst h2; subst h3
    exact Or.inl ⟨v, (T.setVm vm₁).calling g' mk As.toArray, t, U', L, hT, X', hL, e1, e2, hq, st⟩
  · dsimp only [Pt.U, Pt.locs, Pt.cells, Pt.slots] at X' e1 e2 h1 h2 h3 st hcl
    subst h1; subst h2; subst h3
    exact Or.inr ⟨q, (T.setVm vm₁).calling g' mk As.toArray, t, U', L, E, ce, hT, X', hL, e1, e2, hq, hce, hcv, vx_cls hW₁ hcl, st⟩
end Runs
section Rows
variable {p : Program} {l : Launch} {e : Env} {R : Room} {s : State} {m : MethodId} {args : Array Value} {below : List Frame} {meth : Method} {c : Code} {H : Heap} {locs : List Loc} {cells slots : Nat} {Q : State → Prop}
variable {mc ms : Nat} {free : Addr → Prop} {A0 A1 : Nat → Prop} {H0 : Heap} {a : Array Value} {pc : Nat} {ls : Array Slot} {st0 rest : List Value}
theorem vx_keep {st₀ t T' : State} {L : List Loc} (h0 : st₀.heap = H) (e1 : T'.heap = t.heap) (hS : va_S A0 H0 H locs) (hA : ∀ q, q < H.size → A1 q → A0 q) (hf : ∀ q, free q → A0 q) (hL : ∀ q ∈ L, free q.base) (hF : va_F A1 st₀ t) :
    H.size ≤ T'.heap.size ∧ (∀ q : Nat, q < H.size → ¬ A1 q → T'.heap[q]? = H[q]?) ∧ va_S A0 H0 T'.heap (locs ++ L) := by
  obtain ⟨hz, hk⟩ := hF
  rw [h0] at hz hk
  exact ⟨by rw [e1]; exact hz, fun q h1 h2 => by rw [e1]; exact hk q h1 h2,
    ⟨Nat.le_trans hS.1 (by rw [e1]; exact hz), fun q h1 h2 => by rw [e1, hk q (Nat.lt_of_lt_of_le h1 hS.1) (fun z => h2 (hA q (Nat.lt_of_lt_of_le h1 hS.1) z))]; exact hS.2.1 q h1 h2, fun q hq => by
      rcases List.mem_append.mp hq with h | h
      · exact hS.2.2 q h
      · exact hf _ (hL q h)⟩⟩
theorem vx_calli {S SX : Type} {post : Int32 → S → Prop} {px : SX → Prop} {B : S → State → Prop} {BX : String → SX → State → Prop} {AX : Nat → Prop} (hr : vx_Run p l e R s m args below meth c H locs cells slots mc ms (F0 m pc ls st0) rest (va_Qi post B A1 a) (vx_X px BX AX) free) (hS : va_S A0 H0 H locs) (hA : ∀ q, q < H.size → A1 q → A0 q) (hf : ∀ q, free q → A0 q) (hAX : ∀ q, q < H.size → AX q → A0 q)
    (kx : ∀ (E : String) (ce : Cell) (q9 : Addr) (u : SX) (t : State) (H1 : Heap) (locs1 : List Loc), t.heap = H1 → s.vm.Alike t.vm → px u → BX E u t → H.size ≤ H1.size → (∀ q : Nat, q < H.size → ¬ AX q → H1[q]? = H[q]?) → va_S A0 H0 H1 locs1 → H1[q9]? = some ce → ce.vm = .none → s.vm.findClass E = some ce.cls → vx_W p l e R s m args below meth c H1 locs1 (cells + mc) (slots + ms) Q (F0 m pc ls rest) q9)
    (kk : ∀ (r : Int32) (u : S) (t : State) (H1 : Heap) (locs1 : List Loc), t.heap = H1 → s.vm.Alike t.vm → post r u → B u t → H.size ≤ H1.size → (∀ q : Nat, q < H.size → ¬ A1 q → H1[q]? = H[q]?) → va_S A0 H0 H1 locs1 → W p l e R s m args below meth c H1 locs1 (cells + mc) (slots + ms) Q (F0 m (pc + 3) ls (.int r :: rest))) : W p l e R s m args below meth c H locs cells slots Q (F0 m pc ls st0) := by
  intro T hT X
  rcases hr T hT X with ⟨v, st₀, t, T', L, h0, X', hL, e1, e2, ⟨⟨r, u, hv, hp, hb⟩, hF⟩, st⟩ | ⟨q, st₀, t, T', L, E, ce, h0, X', hL, e1, e2, ⟨u, hp, hb, hF⟩, hce, hcv, hcl, st⟩
  · cases hv
    obtain ⟨k1, k2, k3⟩ := vx_keep h0 e1 hS hA hf hL hF
    obtain ⟨t2, a1, b1⟩ := kk r u t T'.heap (locs ++ L) e1.symm (by rw [← e2]; exact X'.warmed.alike) hp hb k1 k2 k3 T' rfl X'
    exact ⟨t2, st t2 a1, b1⟩
  · obtain ⟨k1, k2, k3⟩ := vx_keep h0 e1 hS hAX hf hL hF
    obtain ⟨t2, a1, b1⟩ := kx E ce q u t T'.heap (locs ++ L) e1.symm (by rw [← e2]; exact X'.warmed.alike) hp hb k1 k2 k3 (by rw [e1]; exact hce) hcv hcl T' rfl X'
    exact ⟨t2, st.trans a1, b1⟩
theorem vx_calll {S SX : Type} {post : Int64 → S → Prop} {px : SX → Prop} {B : S → State → Prop} {BX : String → SX → State → Prop} {AX : Nat → Prop} (hr : vx_Run p l e R s m args below meth c H locs cells slots mc ms (F0 m pc ls st0) rest (va_Ql post B A1 a) (vx_X px BX AX) free) (hS : va_S A0 H0 H locs) (hA : ∀ q, q < H.size → A1 q → A0 q) (hf : ∀ q, free q → A0 q) (hAX : ∀ q, q < H.size → AX q → A0 q)
    (kx : ∀ (E : String) (ce : Cell) (q9 : Addr) (u : SX) (t : State) (H1 : Heap) (locs1 : List Loc), t.heap = H1 → s.vm.Alike t.vm → px u → BX E u t → H.size ≤ H1.size → (∀ q : Nat, q < H.size → ¬ AX q → H1[q]? = H[q]?) → va_S A0 H0 H1 locs1 → H1[q9]? = some ce → ce.vm = .none → s.vm.findClass E = some ce.cls → vx_W p l e R s m args below meth c H1 locs1 (cells + mc) (slots + ms) Q (F0 m pc ls rest) q9)
    (kk : ∀ (r : Int64) (u : S) (t : State) (H1 : Heap) (locs1 : List Loc), t.heap = H1 → s.vm.Alike t.vm → post r u → B u t → H.size ≤ H1.size → (∀ q : Nat, q < H.size → ¬ A1 q → H1[q]? = H[q]?) → va_S A0 H0 H1 locs1 → W p l e R s m args below meth c H1 locs1 (cells + mc) (slots + ms) Q (F0 m (pc + 3) ls (.long r :: rest))) : W p l e R s m args below meth c H locs cells slots Q (F0 m pc ls st0) := by
  intro T hT X
  rcases hr T hT X with ⟨v, st₀, t, T', L, h0, X', hL, e1, e2, ⟨⟨r, u, hv, hp, hb⟩, hF⟩, st⟩ | ⟨q, st₀, t, T', L, E, ce, h0, X', hL, e1, e2, ⟨u, hp, hb, hF⟩, hce, hcv, hcl, st⟩
  · cases hv
    obtain ⟨k1, k2, k3⟩ := vx_keep h0 e1 hS hA hf hL hF
    obtain ⟨t2, a1, b1⟩ := kk r u t T'.heap (locs ++ L) e1.symm (by rw [← e2]; exact X'.warmed.alike) hp hb k1 k2 k3 T' rfl X'
    exact ⟨t2, st t2 a1, b1⟩
  · obtain ⟨k1, k2, k3⟩ := vx_keep h0 e1 hS hAX hf hL hF
    obtain ⟨t2, a1, b1⟩ := kx E ce q u t T'.heap (locs ++ L) e1.symm (by rw [← e2]; exact X'.warmed.alike) hp hb k1 k2 k3 (by rw [e1]; exact hce) hcv hcl T' rfl X'
    exact ⟨t2, st.trans a1, b1⟩
theorem vx_callf {S SX : Type} {post : UInt32 → S → Prop} {px : SX → Prop} {B : S → State → Prop} {BX : String → SX → State → Prop} {AX : Nat → Prop} (hr : vx_Run p l e R s m args below meth c H locs cells slots mc ms (F0 m pc ls st0) rest (va_Qf post B A1 a) (vx_X px BX AX) free) (hS : va_S A0 H0 H locs) (hA : ∀ q, q < H.size → A1 q → A0 q) (hf : ∀ q, free q → A0 q) (hAX : ∀ q, q < H.size → AX q → A0 q)
    (kx : ∀ (E : String) (ce : Cell) (q9 : Addr) (u : SX) (t : State) (H1 : Heap) (locs1 : List Loc), t.heap = H1 → s.vm.Alike t.vm → px u → BX E u t → H.size ≤ H1.size → (∀ q : Nat, q < H.size → ¬ AX q → H1[q]? = H[q]?) → va_S A0 H0 H1 locs1 → H1[q9]? = some ce → ce.vm = .none → s.vm.findClass E = some ce.cls → vx_W p l e R s m args below meth c H1 locs1 (cells + mc) (slots + ms) Q (F0 m pc ls rest) q9)
    (kk : ∀ (r : UInt32) (u : S) (t : State) (H1 : Heap) (locs1 : List Loc), t.heap = H1 → s.vm.Alike t.vm → post r u → B u t → H.size ≤ H1.size → (∀ q : Nat, q < H.size → ¬ A1 q → H1[q]? = H[q]?) → va_S A0 H0 H1 locs1 → W p l e R s m args below meth c H1 locs1 (cells + mc) (slots + ms) Q (F0 m (pc + 3) ls (.float r :: rest))) : W p l e R s m args below meth c H locs cells slots Q (F0 m pc ls st0) := by
  intro T hT X
  rcases hr T hT X with ⟨v, st₀, t, T', L, h0, X', hL, e1, e2, ⟨⟨r, u, hv, hp, hb⟩, hF⟩, st⟩ | ⟨q, st₀, t, T', L, E, ce, h0, X', hL, e1, e2, ⟨u, hp, hb, hF⟩, hce, hcv, hcl, st⟩
  · cases hv
    obtain ⟨k1, k2, k3⟩ := vx_keep h0 e1 hS hA hf hL hF
    obtain ⟨t2, a1, b1⟩ := kk r u t T'.heap (locs ++ L) e1.symm (by rw [← e2]; exact X'.warmed.alike) hp hb k1 k2 k3 T' rfl X'
    exact ⟨t2, st t2 a1, b1⟩
  · obtain ⟨k1, k2, k3⟩ := vx_keep h0 e1 hS hAX hf hL hF
    obtain ⟨t2, a1, b1⟩ := kx E ce q u t T'.heap (locs ++ L) e1.symm (by rw [← e2]; exact X'.warmed.alike) hp hb k1 k2 k3 (by rw [e1]; exact hce) hcv hcl T' rfl X'
    exact ⟨t2, st.trans a1, b1⟩
theorem vx_calld {S SX : Type} {post : UInt64 → S → Prop} {px : SX → Prop} {B : S → State → Prop} {BX : String → SX → State → Prop} {AX : Nat → Prop} (hr : vx_Run p l e R s m args below meth c H locs cells slots mc ms (F0 m pc ls st0) rest (va_Qd post B A1 a) (vx_X px BX AX) free) (hS : va_S A0 H0 H locs) (hA : ∀ q, q < H.size → A1 q → A0 q) (hf : ∀ q, free q → A0 q) (hAX : ∀ q, q < H.size → AX q → A0 q)
    (kx : ∀ (E : String) (ce : Cell) (q9 : Addr) (u : SX) (t : State) (H1 : Heap) (locs1 : List Loc), t.heap = H1 → s.vm.Alike t.vm → px u → BX E u t → H.size ≤ H1.size → (∀ q : Nat, q < H.size → ¬ AX q → H1[q]? = H[q]?) → va_S A0 H0 H1 locs1 → H1[q9]? = some ce → ce.vm = .none → s.vm.findClass E = some ce.cls → vx_W p l e R s m args below meth c H1 locs1 (cells + mc) (slots + ms) Q (F0 m pc ls rest) q9)
    (kk : ∀ (r : UInt64) (u : S) (t : State) (H1 : Heap) (locs1 : List Loc), t.heap = H1 → s.vm.Alike t.vm → post r u → B u t → H.size ≤ H1.size → (∀ q : Nat, q < H.size → ¬ A1 q → H1[q]? = H[q]?) → va_S A0 H0 H1 locs1 → W p l e R s m args below meth c H1 locs1 (cells + mc) (slots + ms) Q (F0 m (pc + 3) ls (.double r :: rest))) : W p l e R s m args below meth c H locs cells slots Q (F0 m pc ls st0) := by
  intro T hT X
  rcases hr T hT X with ⟨v, st₀, t, T', L, h0, X', hL, e1, e2, ⟨⟨r, u, hv, hp, hb⟩, hF⟩, st⟩ | ⟨q, st₀, t, T', L, E, ce, h0, X', hL, e1, e2, ⟨u, hp, hb, hF⟩, hce, hcv, hcl, st⟩
  · cases hv
    obtain ⟨k1, k2, k3⟩ := vx_keep h0 e1 hS hA hf hL hF
    obtain ⟨t2, a1, b1⟩ := kk r u t T'.heap (locs ++ L) e1.symm (by rw [← e2]; exact X'.warmed.alike) hp hb k1 k2 k3 T' rfl X'
    exact ⟨t2, st t2 a1, b1⟩
  · obtain ⟨k1, k2, k3⟩ := vx_keep h0 e1 hS hAX hf hL hF
    obtain ⟨t2, a1, b1⟩ := kx E ce q u t T'.heap (locs ++ L) e1.symm (by rw [← e2]; exact X'.warmed.alike) hp hb k1 k2 k3 (by rw [e1]; exact hce) hcv hcl T' rfl X'
    exact ⟨t2, st.trans a1, b1⟩
theorem vx_callv {S SX : Type} {post : S → Prop} {px : SX → Prop} {B : S → State → Prop} {BX : String → SX → State → Prop} {AX : Nat → Prop} (hr : vx_Run p l e R s m args below meth c H locs cells slots mc ms (F0 m pc ls st0) rest (va_Qv post B A1 a) (vx_X px BX AX) free) (hS : va_S A0 H0 H locs) (hA : ∀ q, q < H.size → A1 q → A0 q) (hf : ∀ q, free q → A0 q) (hAX : ∀ q, q < H.size → AX q → A0 q)
    (kx : ∀ (E : String) (ce : Cell) (q9 : Addr) (u : SX) (t : State) (H1 : Heap) (locs1 : List Loc), t.heap = H1 → s.vm.Alike t.vm → px u → BX E u t → H.size ≤ H1.size → (∀ q : Nat, q < H.size → ¬ AX q → H1[q]? = H[q]?) → va_S A0 H0 H1 locs1 → H1[q9]? = some ce → ce.vm = .none → s.vm.findClass E = some ce.cls → vx_W p l e R s m args below meth c H1 locs1 (cells + mc) (slots + ms) Q (F0 m pc ls rest) q9)
    (kk : ∀ (u : S) (t : State) (H1 : Heap) (locs1 : List Loc), t.heap = H1 → s.vm.Alike t.vm → post u → B u t → H.size ≤ H1.size → (∀ q : Nat, q < H.size → ¬ A1 q → H1[q]? = H[q]?) → va_S A0 H0 H1 locs1 → W p l e R s m args below meth c H1 locs1 (cells + mc) (slots + ms) Q (F0 m (pc + 3) ls (rest))) : W p l e R s m args below meth c H locs cells slots Q (F0 m pc ls st0) := by
  intro T hT X
  rcases hr T hT X with ⟨v, st₀, t, T', L, h0, X', hL, e1, e2, ⟨⟨u, hv, hp, hb⟩, hF⟩, st⟩ | ⟨q, st₀, t, T', L, E, ce, h0, X', hL, e1, e2, ⟨u, hp, hb, hF⟩, hce, hcv, hcl, st⟩
  · cases hv
    obtain ⟨k1, k2, k3⟩ := vx_keep h0 e1 hS hA hf hL hF
    obtain ⟨t2, a1, b1⟩ := kk u t T'.heap (locs ++ L) e1.symm (by rw [← e2]; exact X'.warmed.alike) hp hb k1 k2 k3 T' rfl X'
    exact ⟨t2, st t2 a1, b1⟩
  · obtain ⟨k1, k2, k3⟩ := vx_keep h0 e1 hS hAX hf hL hF
    obtain ⟨t2, a1, b1⟩ := kx E ce q u t T'.heap (locs ++ L) e1.symm (by rw [← e2]; exact X'.warmed.alike) hp hb k1 k2 k3 (by rw [e1]; exact hce) hcv hcl T' rfl X'
    exact ⟨t2, st.trans a1, b1⟩
/-- caught by the row x of this method's table; the rows ahead don't take it -/
theorem vx_catch {own name : String} {E : String} {ce : Cell} {q : Addr} (hown : s.vm.findClass own = some m.cls) (pre : List ExceptionTableEntry) (x : ExceptionTableEntry) (suf : List ExceptionTableEntry) (hsplit : c.exceptionTable.toList = pre ++ x :: suf)
    (hpass : ∀ z ∈ pre, covers z pc = false ∨ (z.catchType ≠ 0 ∧ ∃ nm : String, (Cond.classLink own z.catchType nm).before args s = true ∧ va_Nc E nm s)) (hx : covers x pc = true) (h0 : x.catchType ≠ 0)
    (hlink : (Cond.classLink own x.catchType name).before args s = true) (hcast : (Cond.castable E name).before args s = true) (hcell : H[q]? = some ce) (hv : ce.vm = .none) (hcl : s.vm.findClass E = some ce.cls)
    (kk : W p l e R s m args below meth c H locs cells slots Q (F0 m x.handlerPc ls [.ref q])) : vx_W p l e R s m args below meth c H locs cells slots Q (F0 m pc ls rest) q := by
  intro T hT X
  have hpl : e.platform.magicAccessors = ({} : Platform).magicAccessors := by rw [X.admits.platform]
  obtain ⟨c3, c4, hc3, hc4, hasg⟩ := Cond.castable_spec hcast
  cases Option.some.inj (hc3.symm.trans hcl)
  obtain ⟨c5, hc5, hcl5⟩ := Cond.classLink_spec hown hlink e.platform hpl
  cases Option.some.inj (hc4.symm.trans hc5)
  obtain ⟨vm', X', st⟩ := X.thenCaughtThrough q (g := F0 m pc ls rest) rfl (Steps.refl _) (by rw [hT]; exact hcell) (by rw [hv]; rfl) (by obtain ⟨k9, h9, -⟩ := Vm.findClass_spec hcl; exact ⟨k9, h9⟩) pre x suf hsplit
    (fun z hz => by
      rcases hpass z hz with h | ⟨hz0, nm, hl1, hn1⟩
      · exact Or.inl h
      · obtain ⟨c6, hc6, hcl6⟩ := Cond.classLink_spec hown hl1 e.platform hpl
        obtain ⟨a8, b8, h1, h2, h3⟩ := hn1
        cases Option.some.inj (h1.symm.trans hcl)
        cases Option.some.inj (h2.symm.trans hc6)
        exact Or.inr ⟨hz0, _, hcl6, h3⟩) hx (Or.inr ⟨h0, c4, hcl5, hasg⟩)
  obtain ⟨t, a1, b1⟩ := kk (T.setVm vm') hT X'
  exact ⟨t, st.trans a1, b1⟩
end Rows
section Ends
variable {p : Program} {l : Launch} {e : Env} {R : Room} {s : State} {m : MethodId} {args : Array Value} {below : List Frame} {meth : Method} {c : Code} {H : Heap} {locs : List Loc} {cells slots : Nat} {Q : State → Prop}
variable {mc ms : Nat} {free : Addr → Prop} {A0 A1 : Nat → Prop} {H0 : Heap} {a : Array Value} {ls : Array Slot} {st0 rest : List Value}
variable {Qc : Array Value → State → Outcome → State → Prop} {XC : String → State → State → Prop}
/-- what a body that may throw owes at its end -/
def vx_MQ (below : List Frame) (Qc : Array Value → State → Outcome → State → Prop) (XC : String → State → State → Prop) (a : Array Value) (s : State) (mc ms : Nat) (free : Addr → Prop) : State → Prop := fun t =>
  ∃ o, t.status = .running ∧ Ended t below o ∧ vx_Q Qc XC mc ms free a s o t
theorem vx_ret {g : JFrame} {mc ms : Nat} (k : W p l e R s m args below meth c H locs cells slots (MQ below Qc args s mc ms free) g) : W p l e R s m args below meth c H locs cells slots (vx_MQ below Qc XC args s mc ms free) g := by
  intro T hT X
  obtain ⟨t, a1, o, b1, b2, b3, b4⟩ := k T hT X
  exact ⟨t, a1, o, b1, b2, Or.inl ⟨b3, b4⟩⟩
/-- not caught here: it goes on to the caller -/
theorem vx_widen {g : JFrame} {q : Addr} {k n : Nat} (h1 : cells ≤ k) (h2 : slots ≤ n) (kk : vx_W p l e R s m args below meth c H locs k n Q g q) : vx_W p l e R s m args below meth c H locs cells slots Q g q := fun T hT X => kk T hT (stand_widen X h1 h2)
theorem vx_out {pc : Nat} {E : String} {ce : Cell} {q : Addr} {mc ms : Nat} (hout : ∀ x ∈ c.exceptionTable.toList, covers x pc = false) (hlocks : meth.locks = false) (hcell : H[q]? = some ce) (hv : ce.vm = .none) (hcl : s.vm.findClass E = some ce.cls)
    (hx : ∀ t : State, t.heap = H → s.vm.Alike t.vm → XC E s t) (hf : ∀ z ∈ locs, free z.base) (hc : cells ≤ mc) (hs : slots ≤ ms) :
    vx_W p l e R s m args below meth c H locs cells slots (vx_MQ below Qc XC args s mc ms free) (F0 m pc ls rest) q := by
  intro T hT X
  obtain ⟨st1, hrun, hend, hW, hsm⟩ := X.leaveThrown q (g := F0 m pc ls rest) rfl rfl rfl hout hlocks
  have hcell9 : (T.setFrames (.throwing q :: below)).heap[q]? = some ce := by
    show T.heap[q]? = some ce
    rw [hT]; exact hcell
  exact ⟨_, st1, .threw q, hrun, hend, Or.inr ⟨q, rfl, E, ce, locs, hx _ hT hW.alike, hcell9, hv, hcl, hW, hsm.mono hc hs, hf⟩⟩
theorem vx_frame {U : State} {k n : Nat} (h : s.sameButNew ({ U with vm := s.vm } : State) locs k n) : s.heap.size ≤ U.heap.size ∧ ∀ q : Nat, q < s.heap.size → (∀ z ∈ locs, z.base ≠ q) → U.heap[q]? = s.heap[q]? := by
  obtain ⟨-, h2, -, -, -, h6⟩ := h
  refine ⟨h2, fun q hq hz => ?_⟩
  obtain ⟨c9, e1, e2, e3, e4⟩ := h6 q _ (Array.getElem?_eq_getElem hq)
  have hs : c9.slots = (s.heap[q]).slots := Array.ext_getElem? fun i => e4 i fun hm => hz _ hm rfl
  have h9 : c9 = s.heap[q] := by
    rw [hs] at e2
    exact e2
  have e5 : U.heap[q]? = some c9 := e1
  rw [e5, h9, Array.getElem?_eq_getElem hq]
/-- the words of a throw but the four that speak of the heap -/
def vx_no (w : Cond) : Bool := decide (w ≠ .isRef (.static Bundle.tN "UNASSIGNED_STACK" Bundle.steD)) && decide (w ≠ .isRef (.static Bundle.tN "SUPPRESSED_SENTINEL" Bundle.listD)) && decide (w ≠ .laysStatic Bundle.tN "UNASSIGNED_STACK" Bundle.steD) && decide (w ≠ .laysStatic Bundle.tN "SUPPRESSED_SENTINEL" Bundle.listD)
def vx_at0 (own : String) (ic : Nat) (X : String) (names : List String) : List Cond := (Bundle.ownAtoms0 own ic X names).filter vx_no
def vx_atS (own : String) (ic : Nat) (X : String) (names : List String) : List Cond := (Bundle.ownAtoms own ic X names).filter vx_no
/-- a word that the tables alone decide, or a good one -/
def vx_ot (w : Cond) : Bool := w.onTables || goodWord w
theorem vx_ot_at {args a' : Array Value} {s U : State} {w : Cond} (hW : s.WarmedH U.vm) (hvm : s.vm = U.vm) (hg : vx_ot w = true) (h : w.before args s = true) : w.before a' U = true := by
  simp only [vx_ot, Bool.or_eq_true] at hg
  rcases hg with hg | hg
  · exact va_tabs hg hvm h
  · exact word_at hW (good_of_word hg) h
/-- a list's words: the good ones out of the method's own list, the others by premises of their own -/
theorem vx_hat {args : Array Value} {s : State} {L B : List Cond} (h1 : ∀ w ∈ L.filter goodWord, w.before args s = true) (h2 : ∀ w ∈ L.filter (fun w => !goodWord w), w ∈ B) (h3 : ∀ w ∈ B, w.before args s = true) : ∀ w ∈ L, w.before args s = true := by
  intro w hw
  by_cases g : goodWord w = true
  · exact h1 w (List.mem_filter.mpr ⟨hw, g⟩)
  · refine h3 w (h2 w (List.mem_filter.mpr ⟨hw, ?_⟩))
    show (!goodWord w) = true
    cases hgw : goodWord w
    · rfl
    · exact absurd hgw g
theorem vx_c {args : Array Value} {s : State} {w : Cond} {B : List Cond} (h : w.before args s = true) (t : ∀ w ∈ B, w.before args s = true) : ∀ w' ∈ w :: B, w'.before args s = true := fun w' h' => (List.mem_cons.mp h').elim (fun e => by rw [e]; exact h) (t w')
theorem vx_n {args : Array Value} {s : State} : ∀ w ∈ ([] : List Cond), w.before args s = true := fun _ h => nomatch h
theorem vx_own {args : Array Value} {s : State} {L : List Cond} (h1 : ∀ w ∈ L.filter vx_no, w.before args s = true)
    (hU : (Cond.isRef (.static Bundle.tN "UNASSIGNED_STACK" Bundle.steD)).before args s = true) (hN : (Cond.isRef (.static Bundle.tN "SUPPRESSED_SENTINEL" Bundle.listD)).before args s = true)
    (lU : (Cond.laysStatic Bundle.tN "UNASSIGNED_STACK" Bundle.steD).before args s = true) (lN : (Cond.laysStatic Bundle.tN "SUPPRESSED_SENTINEL" Bundle.listD).before args s = true) : ∀ w ∈ L, w.before args s = true := by
  intro w hw
  by_cases e1 : w = .isRef (.static Bundle.tN "UNASSIGNED_STACK" Bundle.steD)
  · rw [e1]; exact hU
  · by_cases e2 : w = .isRef (.static Bundle.tN "SUPPRESSED_SENTINEL" Bundle.listD)
    · rw [e2]; exact hN
    · by_cases e3 : w = .laysStatic Bundle.tN "UNASSIGNED_STACK" Bundle.steD
      · rw [e3]; exact lU
      · by_cases e4 : w = .laysStatic Bundle.tN "SUPPRESSED_SENTINEL" Bundle.listD
        · rw [e4]; exact lN
        · exact h1 w (List.mem_filter.mpr ⟨hw, by unfold vx_no; rw [decide_eq_true e1, decide_eq_true e2, decide_eq_true e3, decide_eq_true e4]; rfl⟩)
/-- where a static field lies, its class's statics cell in H -/
def vx_L (C n d : String) (A : Nat → Prop) (U : State) (H : Heap) : Prop := ∃ (c : ClassId) (k : Class) (i : Nat) (f : Field) (a : Nat) (cell : Cell), U.vm.findClass C = some c ∧ U.fieldFound? C n d = some (c, k, i, f) ∧ f.isStatic = true ∧ k.statics = some a ∧ H[a]? = some cell ∧ cell.vm.isStatics = true ∧ cell.cls = c ∧ f.slot < cell.slots.size ∧ k.staticTypes[f.slot]? = some f.type ∧ ¬ A a
theorem vx_L.moved {C n d : String} {A : Nat → Prop} {u U : State} {H : Heap} (hvm : u.vm.Alike U.vm) (h : vx_L C n d A u H) : vx_L C n d A U H := by
  obtain ⟨c, k, i, f, a, cell, h1, h2, h3, h4, h5, h6, h7, h8, h9, h10⟩ := h
  obtain ⟨k', hi', he⟩ := State.fieldFound?_setVm hvm h2
  exact ⟨c, k', i, f, a, cell, by rw [hvm.findClass]; exact h1, hi', h3, by rw [he]; exact h4, h5, h6, h7, h8, by rw [he]; exact h9, h10⟩
theorem vx_L.kept {C n d : String} {A : Nat → Prop} {U : State} {H H1 : Heap} (h : vx_L C n d A U H) (hq : ∀ a : Nat, a < H.size → ¬ A a → H1[a]? = H[a]?) : vx_L C n d A U H1 := by
  obtain ⟨c, k, i, f, a, cell, h1, h2, h3, h4, h5, h6, h7, h8, h9, h10⟩ := h
  exact ⟨c, k, i, f, a, cell, h1, h2, h3, h4, by rw [hq a (Array.getElem?_eq_some_iff.mp h5).1 h10]; exact h5, h6, h7, h8, h9, h10⟩
theorem vx_L.narrow {C n d : String} {A B : Nat → Prop} {U : State} {H : Heap} (h : vx_L C n d A U H) (hAB : ∀ q, B q → A q) : vx_L C n d B U H := by
  obtain ⟨c, k, i, f, a, cell, h1, h2, h3, h4, h5, h6, h7, h8, h9, h10⟩ := h
  exact ⟨c, k, i, f, a, cell, h1, h2, h3, h4, h5, h6, h7, h8, h9, fun z => h10 (hAB _ z)⟩
theorem vx_L.word {C n d : String} {A : Nat → Prop} {s : State} {args : Array Value} (h : vx_L C n d A s s.heap) : (Cond.laysStatic C n d).before args s = true := by
  obtain ⟨c, k, i, f, a, cell, h1, h2, h3, h4, h5, h6, h7, h8, h9, -⟩ := h
  show (Cond.laysStatic C n d).holds args s none s [] = true
  exact Cond.laysStatic_of h1 h2 h3 h4 h5 h6 h7 h8 h9
/-- .. and what it holds: null or some reference -/
def vx_Zq (C n d : String) (A : Nat → Prop) (U : State) (H : Heap) : Prop := va_Zq C n d A U H ∧ vx_L C n d A U H
theorem vx_Zq.moved {C n d : String} {A : Nat → Prop} {u U : State} {H : Heap} (hvm : u.vm.Alike U.vm) (h : vx_Zq C n d A u H) : vx_Zq C n d A U H := ⟨va_Zq.moved hvm h.1, vx_L.moved hvm h.2⟩
theorem vx_Zq.kept {C n d : String} {A : Nat → Prop} {U : State} {H H1 : Heap} (h : vx_Zq C n d A U H) (hq : ∀ a : Nat, a < H.size → ¬ A a → H1[a]? = H[a]?) : vx_Zq C n d A U H1 := ⟨va_Zq.kept h.1 hq, vx_L.kept h.2 hq⟩
theorem vx_Zq.narrow {C n d : String} {A B : Nat → Prop} {U : State} {H : Heap} (h : vx_Zq C n d A U H) (hAB : ∀ q, B q → A q) : vx_Zq C n d B U H := ⟨va_Zq.narrow h.1 hAB, vx_L.narrow h.2 hAB⟩
theorem vx_Zqof {args : Array Value} {s : State} {C n d : String} {A : Nat → Prop} (hl : (Cond.laysStatic C n d).before args s = true) (hini : (Cond.initialized C).before args s = true) (h : (Cond.isRef (.static C n d)).before args s = true) (hA : ∀ a : Nat, a < s.heap.size → ¬ A a) : vx_Zq C n d A s s.heap := by
  refine ⟨va_Zqof hl hini h hA, ?_⟩
  obtain ⟨c, k, i, f, a, cell, h1, h2, h3, h4, h5, h6, h7, h8, h9⟩ := Cond.laysStatic_spec hl
  exact ⟨c, k, i, f, a, cell, h1, h2, h3, h4, h5, h6, h7, h8, h9, hA a (Array.getElem?_eq_some_iff.mp h5).1⟩
theorem vx_isRef {C n d : String} {v : Value} {A : Nat → Prop} {s : State} {args : Array Value} (h : va_Z C n d v A s s.heap) (hv : v.isRef = true) : (Cond.isRef (.static C n d)).before args s = true := by
  obtain ⟨cf, kf, fi, f, a, cell, h1, h2, h3, h4, h5, h6, h7, -⟩ := h
  have he : (Term.static C n d).eval args s none [] s = some v := by
    simp [Term.eval, State.fieldNamed?, h1, h2, h4, h5, h6, h7]
  simp only [Cond.before, Cond.holds, Cond.value, he]
  cases v <;> simp_all [Value.isRef]
theorem vx_isRefq {C n d : String} {A : Nat → Prop} {s : State} {args : Array Value} (h : va_Zq C n d A s s.heap) : (Cond.isRef (.static C n d)).before args s = true := by
  rcases h with h | ⟨t, h⟩
  · exact vx_isRef h rfl
  · exact vx_isRef h rfl
/-- the same frame, seen from here: as if the method were called anew in this heap -/
theorem vx_rebase {T : State} (X : Stand p l e R s m args below meth c T locs cells slots) {R' : Room} (hf : R'.frames ≤ R.frames) (hl : R'.locals ≤ R.locals) (hc : cells + R'.cells ≤ R.cells) (hs : slots + R'.slots ≤ R.slots) :
    Stand p l e R' ((T.setVm s.vm).setFrames (.invoking m args :: below)) m args below meth c T [] 0 0 := by
  have htop : (T.setVm s.vm).topJava?.isSome := X.here.top
  have hF : ((T.setVm s.vm).setFrames (.invoking m args :: below)).frames = .invoking m args :: below := State.frames_setFrames _ (State.cur_lt_of_top htop)
  obtain ⟨g₀, hg0⟩ := Option.isSome_iff_exists.mp htop
  obtain ⟨r, hr⟩ := State.topJava?_eq_some.mp hg0
  have hl9 : e.platform.stackLimits (T.setVm s.vm).me = e.platform.stackLimits s.me := X.limits
  have hb9 : (T.setVm s.vm).me.stackBytes = s.me.stackBytes := X.bytes
  refine ⟨X.admits, X.cas, X.clock, hF, ?_, X.hears, X.method, X.code, X.here, X.tail, X.warmed, ?_, ?_, ?_⟩
  · have h := X.room
    have hU : ((T.setVm s.vm).setFrames (.invoking m args :: below)).localsInUse = s.localsInUse := by
      rw [State.localsInUse_invoking hF (meth := meth) (c := c) X.method X.code, State.localsInUse_invoking X.frames X.method X.code]
    simp only [State.hasRoom, Bool.and_eq_true, decide_eq_true_eq] at h ⊢
    obtain ⟨⟨⟨⟨h1, h2, h3, h4, h5, h6⟩, h7⟩, h8⟩, h9⟩ := h
    rw [X.frames, List.length_cons] at h2 h3
    have q1 := X.heapSize
    have q2 := X.used
    simp only [hF, hU, List.length_cons, State.stackLimits_setFrames, State.stackBytes_setFrames, hl9, hb9]
    refine ⟨⟨⟨⟨by omega, by omega, by omega, by omega, by omega, h6⟩, ?_⟩, ?_⟩, X.book⟩
    · show T.heap.size + R'.cells ≤ e.platform.maxCells
      omega
    · show T.slotsUsed + R'.slots ≤ e.platform.maxSlots
      omega
  · rw [State.stackLimits_setFrames]; rfl
  · rw [State.stackBytes_setFrames]; rfl
  · refine ⟨?_, Nat.le_refl _, Nat.le_refl _, ?_, ?_, fun a c9 h9 => ⟨c9, h9, rfl, rfl, fun _ _ => rfl⟩⟩
    · obtain ⟨t, ht, -⟩ := State.frames_cons hr
      show T.setVm s.vm = { ((T.setVm s.vm).setFrames (.invoking m args :: below)).setFrames (T.setVm s.vm).frames with heap := T.heap, slotsUsed := T.slotsUsed }
      rw [State.setFrames_setFrames, State.setFrames_self ht]
      rfl
    · show T.slotsUsed = T.slotsUsed + ((T.heap.toList.drop T.heap.size).map (·.slots.size)).sum
      rw [List.drop_eq_nil_of_le (Nat.le_of_eq Array.length_toList)]
      rfl
    · show ((T.heap.toList.drop T.heap.size).map (·.slots.size)).sum ≤ 0
      rw [List.drop_eq_nil_of_le (Nat.le_of_eq Array.length_toList)]
      exact Nat.le_refl _
/-- 'throw new E()': new; dup; invokespecial; athrow -/
theorem vx_throw0 {cc : ByteArray} {pc : Nat} (hexec : p.tables.exec = Jvm.exec) (hb : c.code = cc) (hl : l.stackTraces = false) {own cls : String} {names : List String} {ik ic mc ms : Nat} {A : Nat → Prop}
    (hown : s.vm.findClass own = some m.cls) (hcls : Bundle.fit cls = true) (hnames : ∀ n ∈ names, Bundle.fit n = true)
    (hk : (Cond.classLink own ik cls).before args s = true) (hini : (Cond.initialized cls).before args s = true) (hat : ∀ w ∈ vx_at0 own ic cls names, w.before args s = true)
    (hgood : ∀ w ∈ Cond.classLink own ik cls :: Cond.initialized cls :: vx_at0 own ic cls names, vx_ot w = true)
    (hU : vx_Zq Bundle.tN "UNASSIGNED_STACK" Bundle.steD A s s.heap) (hN : vx_Zq Bundle.tN "SUPPRESSED_SENTINEL" Bundle.listD A s s.heap) (hS : va_S A s.heap H locs) (hsize : ls.size = c.maxLocals)
    (d0 : decode cc pc = .ok (.new ik, 3)) (d3 : decode cc (pc + 3) = .ok (.dup, 1)) (d4 : decode cc (pc + 4) = .ok (.invokespecial ic, 3)) (d7 : decode cc (pc + 7) = .ok (.athrow, 1))
    (hout : ∀ x ∈ c.exceptionTable.toList, covers x (pc + 7) = false)
    (hRframes : names.length + 3 < R.frames) (hRlocals : (rest.map fun v => v.category).sum + (13 * (names.length + 1) + 42) ≤ R.locals) (hRcells : cells + 1 ≤ R.cells) (hRslots : slots + 6 ≤ R.slots) (hlocks : meth.locks = false)
    (hx : ∀ t : State, s.vm.Alike t.vm → H.size ≤ t.heap.size → (∀ q : Nat, q < H.size → t.heap[q]? = H[q]?) → XC cls s t)
    (hf : ∀ z ∈ locs, free z.base) (hc : cells + 1 ≤ mc) (hs : slots + 6 ≤ ms) :
    W p l e R s m args below meth c H locs cells slots (vx_MQ below Qc XC args s mc ms free) (F0 m pc ls rest) := by
  intro T hT X
  have htr : e.platform.stackTraces = false := (show e.platform.stackTraces = l.stackTraces by rw [X.admits.platform]).trans hl
  have Y := vx_rebase X (R' := { frames := R.frames, locals := R.locals, cells := 1, slots := 6 }) (Nat.le_refl _) (Nat.le_refl _) hRcells hRslots
  obtain ⟨s', hA⟩ : ∃ z, z = (T.setVm s.vm).setFrames (.invoking m args :: below) := ⟨_, rfl⟩
  rw [← hA] at Y
  have hvm : s'.vm = s.vm := by rw [hA]; rfl
  have hhp : s'.heap = H := by rw [hA]; exact hT
  have hW0 : s.WarmedH s'.vm := by rw [hvm]; exact State.WarmedH.refl s
  have hat' : ∀ w ∈ vx_at0 own ic cls names, w.before args s' = true := fun w hw => vx_ot_at hW0 hvm.symm (hgood w (List.mem_cons_of_mem _ (List.mem_cons_of_mem _ hw))) (hat w hw)
  have hk' : (Cond.classLink own ik cls).before args s' = true := vx_ot_at hW0 hvm.symm (hgood _ List.mem_cons_self) hk
  have hini' : (Cond.initialized cls).before args s' = true := vx_ot_at hW0 hvm.symm (hgood _ (List.mem_cons_of_mem _ List.mem_cons_self)) hini
  have hU' : vx_Zq Bundle.tN "UNASSIGNED_STACK" Bundle.steD A s' s'.heap := by rw [hhp]; exact vx_Zq.moved hW0.alike (hU.kept hS.2.1)
  have hN' : vx_Zq Bundle.tN "SUPPRESSED_SENTINEL" Bundle.listD A s' s'.heap := by rw [hhp]; exact vx_Zq.moved hW0.alike (hN.kept hS.2.1)
  have h : ∀ w ∈ Bundle.ownAtoms0 own ic cls names, w.before args s' = true := vx_own hat' (vx_isRefq hU'.1) (vx_isRefq hN'.1) hU'.2.word hN'.2.word
  have hown' : s'.vm.findClass own = some m.cls := by rw [hvm]; exact hown
  have hins : (Cond.instantiable cls 6).before args s' = true := h _ (by simp [Bundle.ownAtoms0])
  obtain ⟨vm₁, cX, kX, hfX, hkX, -, -, X₁, st1⟩ := Y.newCold hexec (own := own) (C := cls) (index := ik) (n := 6) hown' hk' hins hini'
    (g := F0 m pc ls rest) rfl (by rw [hb]; exact d0) (Nat.le_refl _) (Nat.le_refl _)
  generalize hT1 : (T.setVm vm₁).pushCell { cls := cX, slots := kX.instanceTypes.map defaultValue, vm := .none } = T1 at X₁ st1
  have hcat : (Value.ref T.heap.size).category = 1 := rfl
  have hcellA : T1.heap[T.heap.size]? = some (freshCell cX kX) := by rw [← hT1]; exact State.heap_pushCell_size _ _
  have d3' : decode c.code (pc + 3) = .ok (.dup, 1) := by rw [hb]; exact d3
  obtain ⟨U, hsteps, hrun, hend, hW, hsame, ce, hce, hO⟩ := X₁.ctorThrow0 hexec htr (own := own) (cls := cls) (names := names) (ic := ic) hown' hcls hnames h (fun x hx => nomatch hx) hfX hkX hcellA (by rw [hhp, hT]; exact Nat.le_refl _)
    (g := { method := m, pc := pc + 4, locals := ls, stack := .ref T.heap.size :: .ref T.heap.size :: rest, locked := none }) rfl hsize rfl rfl (rest := rest) rfl
    (by rw [hb]; exact d4) (by rw [hb]; exact d7) hout hRframes (by simp only [List.map_cons, List.sum_cons, hcat]; omega) hlocks
  obtain ⟨f1, f2⟩ := vx_frame hsame
  rw [hhp] at f1 f2
  have hWs : s.WarmedH U.vm := State.WarmedH.trans hW0 hW
  have hcl : s.vm.findClass cls = some ce.cls := by
    have h9 := hO.cls
    rw [hvm] at h9
    exact h9
  have hall : s.sameButNew ({ U with vm := s.vm } : State) locs mc ms := by
    subst hA
    obtain ⟨e1, e2⟩ := hsame
    rw [State.setFrames_setFrames] at e1
    have h2 : (T.setVm s.vm).sameButNew ({ U with vm := s.vm } : State) [] (0 + 1) (0 + 6) := ⟨e1, e2⟩
    have h3 := X.same.trans h2
    rw [List.append_nil] at h3
    exact h3.mono hc hs
  refine ⟨U, ?_, .threw T.heap.size, hrun, hend, Or.inr ⟨T.heap.size, rfl, cls, ce, locs, hx U hWs.alike f1 (fun q hq => f2 q hq (fun z hz => nomatch hz)), hce, hO.vm, hcl, hWs, hall, hf⟩⟩
  refine st1 _ ?_
  show Steps p.tables e below (T1.setTop { method := m, pc := pc + 3, locals := ls, stack := .ref T.heap.size :: rest, locked := none }) _
  jvm_step X₁.here [X₁.here.top, hexec, d3', Value.category]
  exact hsteps
/-- 'throw new E("text")': new; dup; ldc; invokespecial; athrow -/
theorem vx_throwS {cc : ByteArray} {pc : Nat} (hexec : p.tables.exec = Jvm.exec) (hb : c.code = cc) (hl : l.stackTraces = false) {own cls text : String} {names : List String} {ik is ic mc ms sa : Nat} {A : Nat → Prop}
    (hown : s.vm.findClass own = some m.cls) (hcls : Bundle.fit cls = true) (hnames : ∀ n ∈ names, Bundle.fit n = true)
    (hk : (Cond.classLink own ik cls).before args s = true) (hini : (Cond.initialized cls).before args s = true) (hstr : vk_R own is text sa s) (hat : ∀ w ∈ vx_atS own ic cls names, w.before args s = true)
    (hgood : ∀ w ∈ Cond.classLink own ik cls :: Cond.initialized cls :: vx_atS own ic cls names, vx_ot w = true)
    (hU : vx_Zq Bundle.tN "UNASSIGNED_STACK" Bundle.steD A s s.heap) (hN : vx_Zq Bundle.tN "SUPPRESSED_SENTINEL" Bundle.listD A s s.heap) (hS : va_S A s.heap H locs) (hsize : ls.size = c.maxLocals)
    (d0 : decode cc pc = .ok (.new ik, 3)) (d3 : decode cc (pc + 3) = .ok (.dup, 1)) (d4 : decode cc (pc + 4) = .ok (.ldc is, 2)) (d6 : decode cc (pc + 6) = .ok (.invokespecial ic, 3)) (d9 : decode cc (pc + 9) = .ok (.athrow, 1))
    (hout : ∀ x ∈ c.exceptionTable.toList, covers x (pc + 9) = false)
    (hRframes : names.length + 3 < R.frames) (hRlocals : (rest.map fun v => v.category).sum + (13 * (names.length + 1) + 43) ≤ R.locals) (hRcells : cells + 1 ≤ R.cells) (hRslots : slots + 6 ≤ R.slots) (hlocks : meth.locks = false)
    (hx : ∀ t : State, s.vm.Alike t.vm → H.size ≤ t.heap.size → (∀ q : Nat, q < H.size → t.heap[q]? = H[q]?) → XC cls s t)
    (hf : ∀ z ∈ locs, free z.base) (hc : cells + 1 ≤ mc) (hs : slots + 6 ≤ ms) :
    W p l e R s m args below meth c H locs cells slots (vx_MQ below Qc XC args s mc ms free) (F0 m pc ls rest) := by
  intro T hT X
  have htr : e.platform.stackTraces = false := (show e.platform.stackTraces = l.stackTraces by rw [X.admits.platform]).trans hl
  have Y := vx_rebase X (R' := { frames := R.frames, locals := R.locals, cells := 1, slots := 6 }) (Nat.le_refl _) (Nat.le_refl _) hRcells hRslots
  obtain ⟨s', hA⟩ : ∃ z, z = (T.setVm s.vm).setFrames (.invoking m args :: below) := ⟨_, rfl⟩
  rw [← hA] at Y
  have hvm : s'.vm = s.vm := by rw [hA]; rfl
  have hhp : s'.heap = H := by rw [hA]; exact hT
  have hW0 : s.WarmedH s'.vm := by rw [hvm]; exact State.WarmedH.refl s
  have hat' : ∀ w ∈ vx_atS own ic cls names, w.before args s' = true := fun w hw => vx_ot_at hW0 hvm.symm (hgood w (List.mem_cons_of_mem _ (List.mem_cons_of_mem _ hw))) (hat w hw)
  have hk' : (Cond.classLink own ik cls).before args s' = true := vx_ot_at hW0 hvm.symm (hgood _ List.mem_cons_self) hk
  have hini' : (Cond.initialized cls).before args s' = true := vx_ot_at hW0 hvm.symm (hgood _ (List.mem_cons_of_mem _ List.mem_cons_self)) hini
  have hU' : vx_Zq Bundle.tN "UNASSIGNED_STACK" Bundle.steD A s' s'.heap := by rw [hhp]; exact vx_Zq.moved hW0.alike (hU.kept hS.2.1)
  have hN' : vx_Zq Bundle.tN "SUPPRESSED_SENTINEL" Bundle.listD A s' s'.heap := by rw [hhp]; exact vx_Zq.moved hW0.alike (hN.kept hS.2.1)
  have h : ∀ w ∈ Bundle.ownAtoms own ic cls names, w.before args s' = true := vx_own hat' (vx_isRefq hU'.1) (vx_isRefq hN'.1) hU'.2.word hN'.2.word
  have hown' : s'.vm.findClass own = some m.cls := by rw [hvm]; exact hown
  have hins : (Cond.instantiable cls 6).before args s' = true := h _ (by simp [Bundle.ownAtoms])
  obtain ⟨vm₁, cX, kX, hfX, hkX, -, -, X₁, st1⟩ := Y.newCold hexec (own := own) (C := cls) (index := ik) (n := 6) hown' hk' hins hini'
    (g := F0 m pc ls rest) rfl (by rw [hb]; exact d0) (Nat.le_refl _) (Nat.le_refl _)
  generalize hT1 : (T.setVm vm₁).pushCell { cls := cX, slots := kX.instanceTypes.map defaultValue, vm := .none } = T1 at X₁ st1
  have hcat : (Value.ref T.heap.size).category = 1 := rfl
  have hcellA : T1.heap[T.heap.size]? = some (freshCell cX kX) := by rw [← hT1]; exact State.heap_pushCell_size _ _
  have d3' : decode c.code (pc + 3) = .ok (.dup, 1) := by rw [hb]; exact d3
  have d4' : decode c.code (pc + 4) = .ok (.ldc is, 2) := by rw [hb]; exact d4
  have hstr' : vk_R own is text sa s' := vk_R.warm hW0 hstr
  obtain ⟨U, hsteps, hrun, hend, hW, hsame, ce, hce, hO⟩ := X₁.ctorThrowS hexec htr (own := own) (cls := cls) (names := names) (ic := ic) hown' hcls hnames h (fun x hx => nomatch hx) hfX hkX hcellA (by rw [hhp, hT]; exact Nat.le_refl _) (msg := .ref sa) rfl
    (g := { method := m, pc := pc + 6, locals := ls, stack := .ref sa :: .ref T.heap.size :: .ref T.heap.size :: rest, locked := none }) rfl hsize rfl rfl (rest := rest) rfl
    (by rw [hb]; exact d6) (by rw [hb]; exact d9) hout hRframes (by simp only [List.map_cons, List.sum_cons, hcat]; omega) hlocks
  obtain ⟨f1, f2⟩ := vx_frame hsame
  rw [hhp] at f1 f2
  have hWs : s.WarmedH U.vm := State.WarmedH.trans hW0 hW
  have hcl : s.vm.findClass cls = some ce.cls := by
    have h9 := hO.cls
    rw [hvm] at h9
    exact h9
  have hall : s.sameButNew ({ U with vm := s.vm } : State) locs mc ms := by
    subst hA
    obtain ⟨e1, e2⟩ := hsame
    rw [State.setFrames_setFrames] at e1
    have h2 : (T.setVm s.vm).sameButNew ({ U with vm := s.vm } : State) [] (0 + 1) (0 + 6) := ⟨e1, e2⟩
    have h3 := X.same.trans h2
    rw [List.append_nil] at h3
    exact h3.mono hc hs
  refine ⟨U, ?_, .threw T.heap.size, hrun, hend, Or.inr ⟨T.heap.size, rfl, cls, ce, locs, hx U hWs.alike f1 (fun q hq => f2 q hq (fun z hz => nomatch hz)), hce, hO.vm, hcl, hWs, hall, hf⟩⟩
  refine st1 _ ?_
  show Steps p.tables e below (T1.setTop { method := m, pc := pc + 3, locals := ls, stack := .ref T.heap.size :: rest, locked := none }) _
  jvm_step X₁.here [X₁.here.top, hexec, d3', Value.category]
  exact X₁.ldcString hexec (own := own) (text := text) (index := is) (a := sa) hown' hstr'.1 hstr'.2
    (g := { method := m, pc := pc + 4, locals := ls, stack := .ref T.heap.size :: .ref T.heap.size :: rest, locked := none }) rfl d4' _ hsteps
/-- 'throw new E("text")', the text by a wide index -/
theorem vx_throwSW {cc : ByteArray} {pc : Nat} (hexec : p.tables.exec = Jvm.exec) (hb : c.code = cc) (hl : l.stackTraces = false) {own cls text : String} {names : List String} {ik is ic mc ms sa : Nat} {A : Nat → Prop}
    (hown : s.vm.findClass own = some m.cls) (hcls : Bundle.fit cls = true) (hnames : ∀ n ∈ names, Bundle.fit n = true)
    (hk : (Cond.classLink own ik cls).before args s = true) (hini : (Cond.initialized cls).before args s = true) (hstr : vk_R own is text sa s) (hat : ∀ w ∈ vx_atS own ic cls names, w.before args s = true)
    (hgood : ∀ w ∈ Cond.classLink own ik cls :: Cond.initialized cls :: vx_atS own ic cls names, vx_ot w = true)
    (hU : vx_Zq Bundle.tN "UNASSIGNED_STACK" Bundle.steD A s s.heap) (hN : vx_Zq Bundle.tN "SUPPRESSED_SENTINEL" Bundle.listD A s s.heap) (hS : va_S A s.heap H locs) (hsize : ls.size = c.maxLocals)
    (d0 : decode cc pc = .ok (.new ik, 3)) (d3 : decode cc (pc + 3) = .ok (.dup, 1)) (d4 : decode cc (pc + 4) = .ok (.ldc_w is, 3)) (d7 : decode cc (pc + 7) = .ok (.invokespecial ic, 3)) (d10 : decode cc (pc + 10) = .ok (.athrow, 1))
    (hout : ∀ x ∈ c.exceptionTable.toList, covers x (pc + 10) = false)
    (hRframes : names.length + 3 < R.frames) (hRlocals : (rest.map fun v => v.category).sum + (13 * (names.length + 1) + 43) ≤ R.locals) (hRcells : cells + 1 ≤ R.cells) (hRslots : slots + 6 ≤ R.slots) (hlocks : meth.locks = false)
    (hx : ∀ t : State, s.vm.Alike t.vm → H.size ≤ t.heap.size → (∀ q : Nat, q < H.size → t.heap[q]? = H[q]?) → XC cls s t)
    (hf : ∀ z ∈ locs, free z.base) (hc : cells + 1 ≤ mc) (hs : slots + 6 ≤ ms) :
    W p l e R s m args below meth c H locs cells slots (vx_MQ below Qc XC args s mc ms free) (F0 m pc ls rest) := by
  intro T hT X
  have htr : e.platform.stackTraces = false := (show e.platform.stackTraces = l.stackTraces by rw [X.admits.platform]).trans hl
  have Y := vx_rebase X (R' := { frames := R.frames, locals := R.locals, cells := 1, slots := 6 }) (Nat.le_refl _) (Nat.le_refl _) hRcells hRslots
  obtain ⟨s', hA⟩ : ∃ z, z = (T.setVm s.vm).setFrames (.invoking m args :: below) := ⟨_, rfl⟩
  rw [← hA] at Y
  have hvm : s'.vm = s.vm := by rw [hA]; rfl
  have hhp : s'.heap = H := by rw [hA]; exact hT
  have hW0 : s.WarmedH s'.vm := by rw [hvm]; exact State.WarmedH.refl s
  have hat' : ∀ w ∈ vx_atS own ic cls names, w.before args s' = true := fun w hw => vx_ot_at hW0 hvm.symm (hgood w (List.mem_cons_of_mem _ (List.mem_cons_of_mem _ hw))) (hat w hw)
  have hk' : (Cond.classLink own ik cls).before args s' = true := vx_ot_at hW0 hvm.symm (hgood _ List.mem_cons_self) hk
  have hini' : (Cond.initialized cls).before args s' = true := vx_ot_at hW0 hvm.symm (hgood _ (List.mem_cons_of_mem _ List.mem_cons_self)) hini
  have hU' : vx_Zq Bundle.tN "UNASSIGNED_STACK" Bundle.steD A s' s'.heap := by rw [hhp]; exact vx_Zq.moved hW0.alike (hU.kept hS.2.1)
  have hN' : vx_Zq Bundle.tN "SUPPRESSED_SENTINEL" Bundle.listD A s' s'.heap := by rw [hhp]; exact vx_Zq.moved hW0.alike (hN.kept hS.2.1)
  have h : ∀ w ∈ Bundle.ownAtoms own ic cls names, w.before args s' = true := vx_own hat' (vx_isRefq hU'.1) (vx_isRefq hN'.1) hU'.2.word hN'.2.word
  have hown' : s'.vm.findClass own = some m.cls := by rw [hvm]; exact hown
  have hins : (Cond.instantiable cls 6).before args s' = true := h _ (by simp [Bundle.ownAtoms])
  obtain ⟨vm₁, cX, kX, hfX, hkX, -, -, X₁, st1⟩ := Y.newCold hexec (own := own) (C := cls) (index := ik) (n := 6) hown' hk' hins hini'
    (g := F0 m pc ls rest) rfl (by rw [hb]; exact d0) (Nat.le_refl _) (Nat.le_refl _)
  generalize hT1 : (T.setVm vm₁).pushCell { cls := cX, slots := kX.instanceTypes.map defaultValue, vm := .none } = T1 at X₁ st1
  have hcat : (Value.ref T.heap.size).category = 1 := rfl
  have hcellA : T1.heap[T.heap.size]? = some (freshCell cX kX) := by rw [← hT1]; exact State.heap_pushCell_size _ _
  have d3' : decode c.code (pc + 3) = .ok (.dup, 1) := by rw [hb]; exact d3
  have d4' : decode c.code (pc + 4) = .ok (.ldc_w is, 3) := by rw [hb]; exact d4
  have hstr' : vk_R own is text sa s' := vk_R.warm hW0 hstr
  obtain ⟨U, hsteps, hrun, hend, hW, hsame, ce, hce, hO⟩ := X₁.ctorThrowS hexec htr (own := own) (cls := cls) (names := names) (ic := ic) hown' hcls hnames h (fun x hx => nomatch hx) hfX hkX hcellA (by rw [hhp, hT]; exact Nat.le_refl _) (msg := .ref sa) rfl
    (g := { method := m, pc := pc + 7, locals := ls, stack := .ref sa :: .ref T.heap.size :: .ref T.heap.size :: rest, locked := none }) rfl hsize rfl rfl (rest := rest) rfl
    (by rw [hb]; exact d7) (by rw [hb]; exact d10) hout hRframes (by simp only [List.map_cons, List.sum_cons, hcat]; omega) hlocks
  obtain ⟨f1, f2⟩ := vx_frame hsame
  rw [hhp] at f1 f2
  have hWs : s.WarmedH U.vm := State.WarmedH.trans hW0 hW
  have hcl : s.vm.findClass cls = some ce.cls := by
    have h9 := hO.cls
    rw [hvm] at h9
    exact h9
  have hall : s.sameButNew ({ U with vm := s.vm } : State) locs mc ms := by
    subst hA
    obtain ⟨e1, e2⟩ := hsame
    rw [State.setFrames_setFrames] at e1
    have h2 : (T.setVm s.vm).sameButNew ({ U with vm := s.vm } : State) [] (0 + 1) (0 + 6) := ⟨e1, e2⟩
    have h3 := X.same.trans h2
    rw [List.append_nil] at h3
    exact h3.mono hc hs
  refine ⟨U, ?_, .threw T.heap.size, hrun, hend, Or.inr ⟨T.heap.size, rfl, cls, ce, locs, hx U hWs.alike f1 (fun q hq => f2 q hq (fun z hz => nomatch hz)), hce, hO.vm, hcl, hWs, hall, hf⟩⟩
  refine st1 _ ?_
  show Steps p.tables e below (T1.setTop { method := m, pc := pc + 3, locals := ls, stack := .ref T.heap.size :: rest, locked := none }) _
  jvm_step X₁.here [X₁.here.top, hexec, d3', Value.category]
  exact X₁.ldcStringW hexec (own := own) (text := text) (index := is) (a := sa) hown' hstr'.1 hstr'.2
    (g := { method := m, pc := pc + 4, locals := ls, stack := .ref T.heap.size :: .ref T.heap.size :: rest, locked := none }) rfl d4' _ hsteps
end Ends
section Bodies
variable {l : Launch}
theorem vx_ofW {y : MethodName} {ws ws' : List Cond} {rm : Room} {Pc : Array Value → State → Prop} {Qc : Array Value → State → Outcome → State → Prop} {XC : String → State → State → Prop} {mc ms : Nat} {free : Addr → Prop} {cc : ByteArray} {maxL : Nat} {ret : Option FieldType}
    (hy : plainName y.cls = true) (hw : ws = Cond.code y cc maxL ret :: ws')
    (body : ∀ p e s m args below meth c s₁, BodyLoose p l y (headSpec ws rm) cc maxL ret e s m args below meth c s₁ → c.maxLocals = maxL → (∀ x ∈ c.exceptionTable.toList, False) → Pc args s →
      W p l e (headSpec ws rm).room s m args below meth c s.heap [] 0 0 (vx_MQ below Qc XC args s mc ms free) (entryFrame m args maxL)) : vx_Met l y ws rm Pc Qc XC mc ms free := by
  refine MetFree.of_bodyS (code := cc) (maxLocals := maxL) (ret := ret) hy ?_ ?_
  · intro args s m h hn
    obtain ⟨meth, c, h1, h2, h3, h4, h5, h6, -, -⟩ := Cond.code_spec hn (atoms_spec (ws := ws) h _ (by rw [hw]; exact List.mem_cons_self))
    exact ⟨meth, c, h1, h2, h3, h4, h5, h6⟩
  · intro p e s m args below meth c s₁ B hml hP _
    have hh0 : s₁.heap = s.heap := by rw [B.state]; rfl
    have ht : ∀ x ∈ c.exceptionTable.toList, False := by
      obtain ⟨meth9, c9, h1, h2, -, -, -, -, h7, -⟩ := Cond.code_spec B.named (atoms_spec (ws := ws) B.pre _ (by rw [hw]; exact List.mem_cons_self))
      cases Option.some.inj (h1.symm.trans B.method)
      cases Option.some.inj (h2.symm.trans (Stand.of_body B).code)
      intro x hx
      rw [Array.isEmpty_iff.mp h7] at hx
      cases hx
    obtain ⟨t, a1, o, b1, b2, b3⟩ := body p e s m args below meth c s₁ B hml ht hP s₁ hh0 (Stand.of_body B)
    exact ⟨t, o, a1, b1, b2, b3⟩
/-- the table of a body with handlers -/
theorem vx_table {p : Program} {x y : MethodName} {S : Spec} {cc bytes : ByteArray} {maxL maxL' : Nat} {ret ret' : Option FieldType} {e : Env} {s s₁ : State} {m : MethodId} {args : Array Value} {below : List Frame} {meth : Method} {c : Code} {hh : List (Nat × Nat × Nat × Nat)}
    (B : BodyLoose p l y S cc maxL ret e s m args below meth c s₁) (h : (Cond.codeWith y bytes maxL' ret' hh).before args s = true) : c.exceptionTable.toList = tableOf hh := by
  obtain ⟨m9, meth9, c9, hn9, h1, h2, -, -, h6, -⟩ := Cond.codeWith_spec h
  cases Option.some.inj (hn9.symm.trans B.named)
  cases Option.some.inj (h1.symm.trans B.method)
  cases Option.some.inj (h2.symm.trans (Stand.of_body B).code)
  rw [← h6, table_eq]
end Bodies
end VXA
/-! ===== END ===== -/
/-! ===== BEGIN a static call of a method with an exception table ===== -/
section VXS
variable {p : Program} {l : Launch} {e : Env} {R : Room} {s : State} {m : MethodId} {args : Array Value} {below : List Frame} {meth : Method} {c : Code} {T : State} {H : Heap} {locs : List Loc} {cells slots : Nat}
abbrev vx_CSW (R : Room) (s : State) (args : Array Value) (own : String) (index : Nat) (y : MethodName) (bytes : ByteArray) (maxL : Nat) (ret : Option FieldType) (hh : List (Nat × Nat × Nat × Nat)) (ws : List Cond) (rm : Room) (mc ms n : Nat) : Prop :=
  (rm.cells = mc ∧ rm.slots = ms ∧ rm.frames + 1 ≤ R.frames ∧ 8 + (maxL + 11) + rm.locals ≤ R.locals ∧ (∀ w ∈ ws, ∀ (a' : Array Value) (U : State), s.WarmedH U.vm → w.before a' U = true) ∧ Cond.codeWith y bytes maxL ret hh ∈ ws) ∧
  (Cond.codeWith y bytes maxL ret hh).before args s = true ∧ (Cond.initialized y.cls).before args s = true ∧ (y.cls ≠ "java/lang/invoke/MethodHandle" ∧ y.cls ≠ "java/lang/invoke/VarHandle") ∧
  (∀ sig, parseMethodDescriptor y.desc = some sig → n = sig.parameters.length) ∧ (Cond.methodLink own index y).before args s = true ∧ (Cond.static y).before args s = true
theorem vx_cwSW {own : String} {index maxL mc ms : Nat} {y : MethodName} {bytes : ByteArray} {ret : Option FieldType} {hh : List (Nat × Nat × Nat × Nat)} {Ts ws ws' : List Cond} {rm : Room} (n : Nat) (ht : ∀ w ∈ Ts, w.before args s = true) (hT : GoodIn Ts (va_wsS own index y ws)) (hw : ws = Cond.codeWith y bytes maxL ret hh :: ws') (hrc : rm.cells = mc) (hrs : rm.slots = ms)
    (hd : y.cls ≠ "java/lang/invoke/MethodHandle" ∧ y.cls ≠ "java/lang/invoke/VarHandle" ∧ (parseMethodDescriptor y.desc).map (fun d => d.parameters.length) = some n) (hR : rm.frames + 1 ≤ R.frames ∧ 8 + (maxL + 11) + rm.locals ≤ R.locals) :
    vx_CSW R s args own index y bytes maxL ret hh ws rm mc ms n := by
  have ok : ∀ w ∈ va_wsS own index y ws, w.before args s = true := fun w h => ht w (hT w h).1
  have hG : GoodIn Ts ws := fun w h => hT w (by unfold va_wsS; exact List.mem_append_right _ h)
  have hc : Cond.codeWith y bytes maxL ret hh ∈ ws := by rw [hw]; exact List.mem_cons_self
  refine ⟨⟨hrc, hrs, hR.1, hR.2, pay_in ht hG, hc⟩, ht _ (hG _ hc).1, ok _ (by simp [va_wsS]), ⟨hd.1, hd.2.1⟩, fun sig h => ?_, ok _ (by simp [va_wsS]), ok _ (by simp [va_wsS])⟩
  have h2 := hd.2.2
  rw [h] at h2
  exact (Option.some.inj h2).symm
theorem vx_callSW (X : Stand p l e R s m args below meth c T locs cells slots) (hexec : p.tables.exec = Jvm.exec) {own : String} {index : Nat} {y : MethodName} {bytes : ByteArray} {maxL : Nat} {ret : Option FieldType} {hh : List (Nat × Nat × Nat × Nat)}
    (hown : s.vm.findClass own = some m.cls) (hlink : (Cond.methodLink own index y).before args s = true) (hstat : (Cond.static y).before args s = true) (hinit : (Cond.initialized y.cls).before args s = true)
    (hcode : (Cond.codeWith y bytes maxL ret hh).before args s = true) (hy : y.cls ≠ "java/lang/invoke/MethodHandle" ∧ y.cls ≠ "java/lang/invoke/VarHandle")
    {W9 : Nat} {Pre : Pt → Array Value → Prop} {Post : Pt → Array Value → Option Value → Pt → Prop} (hK : Back l R p e below s args y 3 W9 Pre Post)
    {g : JFrame} (hg : g.method = m) (hsize : g.locals.size = c.maxLocals) {argsL rest : List Value} (hlen : ∀ sig, parseMethodDescriptor y.desc = some sig → argsL.length = sig.parameters.length)
    (hstack : g.stack = argsL.reverse ++ rest) (hW : 2 * g.monitorRoom + (rest.map fun v => v.category).sum ≤ W9) (hdg : decode c.code g.pc = .ok (.invokestatic index, 3))
    (hpre : ∀ vm₁, s.WarmedH vm₁ → Pre ⟨T.setVm vm₁, locs, cells, slots⟩ argsL.toArray) :
    ∃ (v : Option Value) (vm₁ : Vm) (B : Pt), s.WarmedH vm₁ ∧ Stand p l e R s m args below meth c B.U B.locs B.cells B.slots ∧ Post ⟨T.setVm vm₁, locs, cells, slots⟩ argsL.toArray v B ∧
      ∀ target, Steps p.tables e below (B.U.setTop { g with pc := g.pc + 3, stack := v.toList ++ rest }) target → Steps p.tables e below (T.setTop g) target := by
  obtain ⟨mk, methM, cM, hnamed, hmethM, -, -, -, -, -, -, hsigM⟩ := Cond.codeWith_spec hcode
  have hstatic : methM.isStatic = true := Cond.static_spec hnamed hmethM hstat
  obtain ⟨kP, hkP, -⟩ := className_of_methodNamed hnamed
  have hinitP : kP.init = .initialized := Cond.initialized_spec (findClass_of_methodNamed hnamed) hkP hinit
  obtain ⟨vm₁, X₁, hstep₁⟩ := X.invokestatic hexec hown hlink hnamed hmethM hstatic hkP hinitP hy (g := g) hg (argsL := argsL) (rest := rest) (hlen _ hsigM) hstack hdg
  obtain ⟨v, B, X', hpost, hsteps⟩ := hK m meth c ⟨T.setVm vm₁, locs, cells, slots⟩ { g with stack := rest } (.invokestatic index) mk argsL.toArray X₁ hg hsize hdg hW (X₁.named hnamed) (hpre vm₁ X₁.warmed)
  exact ⟨v, vm₁, B, X₁.warmed, X', hpost, fun target h => hstep₁ _ fun acts => by rw [doInvoke_state]; exact hsteps.trans h⟩
theorem vx_runSW {y : MethodName} {bytes cc : ByteArray} {maxL nL mc ms n index : Nat} {ret : Option FieldType} {hh : List (Nat × Nat × Nat × Nat)} {ws : List Cond} {rm : Room} {Pc : Array Value → State → Prop} {Qc : Array Value → State → Outcome → State → Prop} {free : Addr → Prop} {Ts : List Cond} {own : String} {As rest : List Value} {g : JFrame}
    (S : CallFix p m c cc nL s args Ts own) (hM : Met l y ws rm Pc Qc mc ms free) (cw : vx_CSW R s args own index y bytes maxL ret hh ws rm mc ms n) (hp : PreS s H Pc As)
    (hg : g.method = m) (hn : As.length = n) (hsize : g.locals.size = nL) (hstack : g.stack = As.reverse ++ rest) (hW : 2 * g.monitorRoom + (rest.map fun v => v.category).sum ≤ 8) (hdg : decode cc g.pc = .ok (.invokestatic index, 3)) (hf : cells + mc ≤ R.cells ∧ slots + ms ≤ R.slots) :
    va_Run p l e R s m args below meth c H locs cells slots mc ms g rest (Qc As.toArray) (free) := by
  obtain ⟨⟨hrc, hrs, hfr, hlo, hws, hcw⟩, hcode, hini, hy, hlen, hl, hstt⟩ := cw
  have hK : Back l R p e below s args y 3 8 (PreOf R mc ms Pc) (PostOf Qc mc ms free) := va_backW (hh := hh) (bytes := bytes) (maxL := maxL) (ret := ret) hM hp.1 hrc hrs hfr hlo hws hcw (fun a' U hW => word_at hW (Or.inl (by first | rfl | simp [Cond.onTables, Cond.keeps, Cond.steady])) hini)
  obtain ⟨hx, hb, hml, ho, -⟩ := S
  intro T hT X
  obtain ⟨v, vm₁, ⟨U', l2, c2, s2⟩, hW₁, X', ⟨g', mk, t, L, e1, e2, hq, h1, hL, h2, h3⟩, st⟩ := vx_callSW X hx (hh := hh) (bytes := bytes) (maxL := maxL) (ret := ret) ho hl hstt hini hcode hy hK hg (hsize.trans hml.symm) (argsL := As) (rest := rest) (fun sig h => hn.trans (hlen sig h)) hstack hW (by rw [hb]; exact hdg)
    (fun vm₁ hW₁ => ⟨hf.1, hf.2, hp.2 (T.setVm vm₁) hT hW₁⟩)
  dsimp only [Pt.U, Pt.locs, Pt.cells, Pt.slots] at X' e1 e2 h1 h2 h3 st
  subst h1; subst h2; subst h3
  exact ⟨v, (T.setVm vm₁).calling g' mk As.toArray, t, U', L, hT, X', hL, e1, e2, hq, st⟩
/-- not caught here, past rows that name other classes: it goes on to the caller -/
theorem vx_outP {p : Program} {l : Launch} {e : Env} {R : Room} {s : State} {m : MethodId} {args : Array Value} {below : List Frame} {meth : Method} {c : Code} {H : Heap} {locs : List Loc} {cells slots : Nat} {free : Addr → Prop} {ls : Array Slot} {rest : List Value} {Qc : Array Value → State → Outcome → State → Prop} {XC : String → State → State → Prop}
    {pc : Nat} {own E : String} {ce : Cell} {q : Addr} {mc ms : Nat} (hown : s.vm.findClass own = some m.cls) (hlocks : meth.locks = false)
    (hpass : ∀ z ∈ c.exceptionTable.toList, covers z pc = false ∨ (z.catchType ≠ 0 ∧ ∃ nm : String, (Cond.classLink own z.catchType nm).before args s = true ∧ va_Nc E nm s)) (hcell : H[q]? = some ce) (hv : ce.vm = .none) (hcl : s.vm.findClass E = some ce.cls)
    (hx : ∀ t : State, t.heap = H → s.vm.Alike t.vm → XC E s t) (hf : ∀ z ∈ locs, free z.base) (hc : cells ≤ mc) (hs : slots ≤ ms) :
    vx_W p l e R s m args below meth c H locs cells slots (vx_MQ below Qc XC args s mc ms free) (F0 m pc ls rest) q := by
  intro T hT X
  have hpl : e.platform.magicAccessors = ({} : Platform).magicAccessors := by rw [X.admits.platform]
  obtain ⟨vm', hW', X', st⟩ := X.outThrough hlocks q (g := F0 m pc ls rest) rfl rfl rfl (cell := ce) (by rw [hT]; exact hcell) (by rw [hv]; rfl)
    (by obtain ⟨k9, h9, -⟩ := Vm.findClass_spec hcl; exact ⟨k9, h9⟩) (fun z hz => by
      rcases hpass z hz with h | ⟨hz0, nm, hl1, hn1⟩
      · exact Or.inl h
      · obtain ⟨c6, hc6, hcl6⟩ := Cond.classLink_spec hown hl1 e.platform hpl
        obtain ⟨a8, b8, h1, h2, h3⟩ := hn1
        cases Option.some.inj (h1.symm.trans hcl)
        cases Option.some.inj (h2.symm.trans hc6)
        exact Or.inr ⟨hz0, _, hcl6, h3⟩)
  obtain ⟨g₀, hfr⟩ := X'.frames_eq
  have hcell9 : ((T.setVm vm').setFrames (.throwing q :: below)).heap[q]? = some ce := by
    show T.heap[q]? = some ce
    rw [hT]; exact hcell
  have hend : Ended ((T.setVm vm').setFrames (.throwing q :: below)) below (.threw q) := State.frames_setFrames _ (State.cur_lt_of_frames hfr)
  refine ⟨(T.setVm vm').setFrames (.throwing q :: below), ?_, .threw q, X'.here.running, hend, Or.inr ⟨q, rfl, E, ce, locs, hx _ hT (X'.ends _).1.alike, hcell9, hv, hcl, (X'.ends _).1, (X'.ends _).2.mono hc hs, hf⟩⟩
  rw [X.pushThrowing_eq]
  exact st
/-- a thing of a world lies in the heap -/
theorem vx_lt {D : va_G} {cl : List vw_C} {ws : va_W} {H1 : Heap} (h : va_P D cl ws H1) {k : Nat} {q : Nat × va_E} (hk : ws[k]? = some q) : q.1 < H1.size := (h k q hk).lt
end VXS
/-! ===== END ===== -/
/-! ===== BEGIN methods with a table of their own: called by a name, returning or throwing ===== -/
section VXH
/-! vx_backW, vx_callVX, vx_callSX, vx_callVW, vx_runVW, vx_runVX, vx_runSX, vx_ofWH follow the same proofs as their sisters above (Free/Laws.lean, Shelf42/LK1.lean); vx_outP calls Shelf42/NT130.lean (outThrough). -/
section
variable {l : Launch} {R : Room} {p : Program} {e : Env} {below : List Frame} {s : State} {sargs : Array Value} {y : MethodName} {len W9 : Nat}
theorem vx_backW {ws : List Cond} {rm : Room} {Pc : Array Value → State → Prop} {Qc : Array Value → State → Outcome → State → Prop} {XC : String → State → State → Prop} {mc ms : Nat} {free : Addr → Prop} {bytes : ByteArray} {maxL : Nat} {ret : Option FieldType} {hh : List (Nat × Nat × Nat × Nat)}
    (hM : vx_Met l y ws rm Pc Qc XC mc ms free) (hblind : FrameBlind Pc) (hrc : rm.cells = mc) (hrs : rm.slots = ms)
    (hframes : rm.frames + 1 ≤ R.frames) (hlocals : W9 + (maxL + 11) + rm.locals ≤ R.locals)
    (hws : ∀ w ∈ ws, ∀ a' U, s.WarmedH U.vm → w.before a' U = true) (hcode : Cond.codeWith y bytes maxL ret hh ∈ ws) (hinit : ∀ a' U, s.WarmedH U.vm → (Cond.initialized y.cls).before a' U = true) :
    vx_Back l R p e below s sargs y len W9 (PreOf R mc ms Pc) (PostOf Qc mc ms free) (vx_Post XC mc ms free) := by
  intro m meth c A g ig mk a X hg hsize hdg hW hn hp
  have h1 : (headSpec ws rm).pre.before a A.U = true := atoms_intro fun w hw => hws w hw _ _ X.warmed
  have h2 : (Cond.codeWith y bytes maxL ret hh).before a A.U = true := hws _ hcode _ _ X.warmed
  have h3 : (Cond.initialized y.cls).before a A.U = true := hinit _ _ X.warmed
  have h4 : A.cells + (headSpec ws rm).room.cells ≤ R.cells := by rw [show (headSpec ws rm).room.cells = mc from hrc]; exact hp.1
  have h5 : A.slots + (headSpec ws rm).room.slots ≤ R.slots := by rw [show (headSpec ws rm).room.slots = ms from hrs]; exact hp.2.1
  have hPc : Pc a (A.U.calling g mk a) := hblind _ _ _ _ hp.2.2
  obtain ⟨U, Ls, c0, s0⟩ := A
  dsimp only [Pt.U, Pt.locs, Pt.cells, Pt.slots] at h1 h2 h3 h4 h5 X hn hPc ⊢
  obtain ⟨m9, methY, cY, hn9, hmY, hcY, -, hlY, -⟩ := Cond.codeWith_spec h2
  cases Option.some.inj (hn9.symm.trans hn)
  obtain ⟨kY, hkY, -⟩ := className_of_methodNamed hn
  have hinitY : kY.init = .initialized := Cond.initialized_spec (findClass_of_methodNamed hn) hkY h3
  have h : At U g.method c below := by rw [hg]; exact X.here
  have hlocals9 : W9 + (maxL + 11) + (headSpec ws rm).room.locals ≤ R.locals := hlocals
  have happ : (headSpec ws rm).appliesLoose y e.platform (U.calling g mk a) = true :=
    Spec.appliesLoose_calling (g := g) h hdg hn hkY hinitY
      (X.room_calling (g := g) (R' := (headSpec ws rm).room) hsize hmY hcY hframes (by rw [hlY]; omega) h4 h5) h1
  obtain ⟨mid, hmid⟩ := h.above
  have hfr : (U.setTop g).frames = (.java g :: mid) ++ below := by rw [State.frames_setTop' g h.top, hmid]; rfl
  obtain ⟨o, s₂, hsteps, -, hend, hq⟩ := Steps.callFree hM p X.admits X.cas X.clock (acts := []) hfr happ hPc trivial
  have hq' : vx_Q Qc XC mc ms free a (U.calling g mk a) o s₂ := hq
  rw [State.frames_setTop' g h.top] at hend
  obtain ⟨g₀, hg0⟩ := Option.isSome_iff_exists.mp h.top
  obtain ⟨r, hr⟩ := State.topJava?_eq_some.mp hg0
  have hr' : (({ U with heap := s₂.heap, slotsUsed := s₂.slotsUsed } : State).setVm s₂.vm).frames = .java g₀ :: r := hr
  rcases hq' with ⟨hqc, L, hfe, hL⟩ | ⟨q, rfl, E, ce, L, hx, hce, hcv, hcl, hW₂, hsm, hL⟩
  · obtain ⟨⟨v, rfl⟩, hW₂, e2, q2, q3, q4, q5, q6⟩ := id hfe
    have e3 : s₂ = ({ (U.calling g mk a).setFrames s₂.frames with heap := s₂.heap, slotsUsed := s₂.slotsUsed } : State).setVm s₂.vm := by
      have : s₂ = ({ s₂ with vm := (U.calling g mk a).vm } : State).setVm s₂.vm := rfl
      rw [e2] at this
      exact this
    obtain ⟨c₂, i₂, len₂, hc₂, hd₂, hf₂⟩ := hend
    have hW' : U.WarmedH s₂.vm := hW₂
    have hcc : c₂ = c := by
      have h1 : s₂.code? g.method = U.code? g.method := by
        rw [State.code?_eq, State.code?_eq, hW'.alike.method?]
      exact Option.some.inj (hc₂.symm.trans (h1.trans h.code))
    subst hcc
    have hlen : len₂ = len := by rw [hdg] at hd₂; cases hd₂; rfl
    subst hlen
    have hs₂ : s₂ = (({ U with heap := s₂.heap, slotsUsed := s₂.slotsUsed } : State).setVm s₂.vm).setTop { g with pc := g.pc + len₂, stack := v.toList ++ g.stack } := by
      refine e3.trans ?_
      rw [hf₂, State.calling_eq h.top, State.setFrames_setFrames, State.setTop_of_frames _ hr', hr]
      rfl
    have hsame : U.sameButNew ({ U with heap := s₂.heap, slotsUsed := s₂.slotsUsed } : State) L mc ms := by
      refine ⟨?_, q2, q3, q4, q5, q6⟩
      obtain ⟨t, ht, -⟩ := State.frames_cons hr
      show ({ U with heap := s₂.heap, slotsUsed := s₂.slotsUsed } : State) = { U.setFrames U.frames with heap := s₂.heap, slotsUsed := s₂.slotsUsed }
      rw [State.setFrames_self ht]
    subst hg
    refine Or.inl ⟨v, ⟨(({ U with heap := s₂.heap, slotsUsed := s₂.slotsUsed } : State).setVm s₂.vm), Ls ++ L, c0 + mc, s0 + ms⟩,
      ⟨X.admits, X.cas, X.clock, X.frames, X.room, X.hears, X.method, X.code, (X.here.setHeapUsed s₂.heap s₂.slotsUsed).setVm hW'.alike, X.tail, State.WarmedH.trans X.warmed hW', X.limits, X.bytes, X.same.trans (hsame.setVm s.vm)⟩,
      ⟨g, mk, s₂, L, rfl, rfl, hqc, rfl, hL, rfl, rfl⟩, ?_⟩
    show Steps p.tables e below _ ((({ U with heap := s₂.heap, slotsUsed := s₂.slotsUsed } : State).setVm s₂.vm).setTop { g with pc := g.pc + len₂, stack := v.toList ++ g.stack })
    rw [← hs₂]
    exact hsteps
  · obtain ⟨e2, q2, q3, q4, q5, q6⟩ := id hsm
    have e3 : s₂ = ({ (U.calling g mk a).setFrames s₂.frames with heap := s₂.heap, slotsUsed := s₂.slotsUsed } : State).setVm s₂.vm := by
      have : s₂ = ({ s₂ with vm := (U.calling g mk a).vm } : State).setVm s₂.vm := rfl
      rw [e2] at this
      exact this
    have hf₂ : s₂.frames = .throwing q :: .java g :: U.frames.tail := hend
    have hW' : U.WarmedH s₂.vm := hW₂
    have hs₂ : s₂ = ((({ U with heap := s₂.heap, slotsUsed := s₂.slotsUsed } : State).setVm s₂.vm).setTop g).pushFrame (.throwing q) := by
      refine e3.trans ?_
      rw [hf₂, State.calling_eq h.top, State.setFrames_setFrames, State.pushFrame, State.frames_setTop _ hr', State.setTop_of_frames _ hr', State.setFrames_setFrames, hr]
      rfl
    have hsame : U.sameButNew ({ U with heap := s₂.heap, slotsUsed := s₂.slotsUsed } : State) L mc ms := by
      refine ⟨?_, q2, q3, q4, q5, q6⟩
      obtain ⟨t, ht, -⟩ := State.frames_cons hr
      show ({ U with heap := s₂.heap, slotsUsed := s₂.slotsUsed } : State) = { U.setFrames U.frames with heap := s₂.heap, slotsUsed := s₂.slotsUsed }
      rw [State.setFrames_self ht]
    subst hg
    refine Or.inr ⟨q, ⟨(({ U with heap := s₂.heap, slotsUsed := s₂.slotsUsed } : State).setVm s₂.vm), Ls ++ L, c0 + mc, s0 + ms⟩,
      ⟨X.admits, X.cas, X.clock, X.frames, X.room, X.hears, X.method, X.code, (X.here.setHeapUsed s₂.heap s₂.slotsUsed).setVm hW'.alike, X.tail, State.WarmedH.trans X.warmed hW', X.limits, X.bytes, X.same.trans (hsame.setVm s.vm)⟩,
      ⟨g, mk, s₂, L, E, ce, rfl, rfl, hx, hce, hcv, hcl, rfl, hL, rfl, rfl⟩, ?_⟩
    show Steps p.tables e below _ (((({ U with heap := s₂.heap, slotsUsed := s₂.slotsUsed } : State).setVm s₂.vm).setTop g).pushFrame (.throwing q))
    rw [← hs₂]
    exact hsteps
end
variable {p : Program} {l : Launch} {e : Env} {R : Room} {s : State} {m : MethodId} {args : Array Value} {below : List Frame} {meth : Method} {c : Code} {T : State} {H : Heap} {locs : List Loc} {cells slots : Nat}
theorem vx_callVX (X : Stand p l e R s m args below meth c T locs cells slots) (hexec : p.tables.exec = Jvm.exec) {own C : String} {index : Nat} {y : MethodName} {bytes : ByteArray} {maxL : Nat} {ret : Option FieldType} {hh : List (Nat × Nat × Nat × Nat)}
    (hown : s.vm.findClass own = some m.cls) (hlink : (Cond.methodLink own index y).before args s = true) (hinst : (Cond.instanceMethod y).before args s = true) (hsel : (Cond.selects C y y).before args s = true)
    (hcode : (Cond.codeWith y bytes maxL ret hh).before args s = true) (hy : y.cls ≠ "java/lang/invoke/MethodHandle" ∧ y.cls ≠ "java/lang/invoke/VarHandle")
    {W9 : Nat} {Pre : Pt → Array Value → Prop} {Post : Pt → Array Value → Option Value → Pt → Prop} {PostX : Pt → Array Value → Addr → Pt → Prop} (hK : vx_Back l R p e below s args y 3 W9 Pre Post PostX)
    {b : Addr} {cellB : Cell} (hcell : T.heap[b]? = some cellB) (hobj : cellB.vm.isStatics = false) (hcls : s.vm.findClass C = some cellB.cls)
    {g : JFrame} (hg : g.method = m) (hsize : g.locals.size = c.maxLocals) {argsL rest : List Value} (hlen : ∀ sig, parseMethodDescriptor y.desc = some sig → argsL.length = sig.parameters.length)
    (hstack : g.stack = argsL.reverse ++ .ref b :: rest) (hW : 2 * g.monitorRoom + (rest.map fun v => v.category).sum ≤ W9) (hdg : decode c.code g.pc = .ok (.invokevirtual index, 3))
    (hpre : ∀ vm₁, s.WarmedH vm₁ → Pre ⟨T.setVm vm₁, locs, cells, slots⟩ (Value.ref b :: argsL).toArray) :
    (∃ (v : Option Value) (vm₁ : Vm) (B : Pt), s.WarmedH vm₁ ∧ Stand p l e R s m args below meth c B.U B.locs B.cells B.slots ∧ Post ⟨T.setVm vm₁, locs, cells, slots⟩ (Value.ref b :: argsL).toArray v B ∧
      ∀ target, Steps p.tables e below (B.U.setTop { g with pc := g.pc + 3, stack := v.toList ++ rest }) target → Steps p.tables e below (T.setTop g) target) ∨
    (∃ (q : Addr) (vm₁ : Vm) (B : Pt), s.WarmedH vm₁ ∧ Stand p l e R s m args below meth c B.U B.locs B.cells B.slots ∧ PostX ⟨T.setVm vm₁, locs, cells, slots⟩ (Value.ref b :: argsL).toArray q B ∧
      Steps p.tables e below (T.setTop g) ((B.U.setTop { g with stack := rest }).pushFrame (.throwing q))) := by
  obtain ⟨mk, methM, hnamed, hmethM, hstM, habM⟩ := Cond.instanceMethod_spec hinst
  obtain ⟨m8, methM', cM, hn8, hmethM', -, -, -, -, -, -, hsigM⟩ := Cond.codeWith_spec hcode
  cases Option.some.inj (hn8.symm.trans hnamed)
  cases hmethM.symm.trans hmethM'
  obtain ⟨c2, r2, m2, q1, q2, q3, q4, kP, hkP, hkPi⟩ := Cond.selects_spec hsel
  cases hcls.symm.trans q1
  cases (State.methodFound?_of_named hnamed hy).symm.trans q2
  cases hnamed.symm.trans q3
  have hselP : selectMethod e.platform s.vm cellB.cls mk = .method mk := by rw [Launch.admits_selectMethod X.admits]; exact q4
  obtain ⟨vm₁, X₁, hstep₁⟩ := X.invokevirtual hexec hown hlink hnamed hmethM hstM hkP hkPi hy (a := b) (cell := cellB) hcell
    (fun z h => by rw [h] at hobj; cases hobj) hselP hmethM habM hkP hkPi (g := g) hg (argsL := argsL) (rest := rest) (hlen _ hsigM) hstack hdg
  rcases hK m meth c ⟨T.setVm vm₁, locs, cells, slots⟩ { g with stack := rest } (.invokevirtual index) mk (Value.ref b :: argsL).toArray X₁ hg hsize hdg hW (X₁.named hnamed) (hpre vm₁ X₁.warmed) with ⟨v, B, X', hpost, hsteps⟩ | ⟨q, B, X', hpost, hsteps⟩
  · exact Or.inl ⟨v, vm₁, B, X₁.warmed, X', hpost, fun target h => hstep₁ _ fun acts => by rw [doInvoke_state]; exact hsteps.trans h⟩
  · exact Or.inr ⟨q, vm₁, B, X₁.warmed, X', hpost, hstep₁ _ fun acts => by rw [doInvoke_state]; exact hsteps⟩
theorem vx_callSX (X : Stand p l e R s m args below meth c T locs cells slots) (hexec : p.tables.exec = Jvm.exec) {own : String} {index : Nat} {y : MethodName} {bytes : ByteArray} {maxL : Nat} {ret : Option FieldType} {hh : List (Nat × Nat × Nat × Nat)}
    (hown : s.vm.findClass own = some m.cls) (hlink : (Cond.methodLink own index y).before args s = true) (hstat : (Cond.static y).before args s = true) (hinit : (Cond.initialized y.cls).before args s = true)
    (hcode : (Cond.codeWith y bytes maxL ret hh).before args s = true) (hy : y.cls ≠ "java/lang/invoke/MethodHandle" ∧ y.cls ≠ "java/lang/invoke/VarHandle")
    {W9 : Nat} {Pre : Pt → Array Value → Prop} {Post : Pt → Array Value → Option Value → Pt → Prop} {PostX : Pt → Array Value → Addr → Pt → Prop} (hK : vx_Back l R p e below s args y 3 W9 Pre Post PostX)
    {g : JFrame} (hg : g.method = m) (hsize : g.locals.size = c.maxLocals) {argsL rest : List Value} (hlen : ∀ sig, parseMethodDescriptor y.desc = some sig → argsL.length = sig.parameters.length)
    (hstack : g.stack = argsL.reverse ++ rest) (hW : 2 * g.monitorRoom + (rest.map fun v => v.category).sum ≤ W9) (hdg : decode c.code g.pc = .ok (.invokestatic index, 3))
    (hpre : ∀ vm₁, s.WarmedH vm₁ → Pre ⟨T.setVm vm₁, locs, cells, slots⟩ argsL.toArray) :
    (∃ (v : Option Value) (vm₁ : Vm) (B : Pt), s.WarmedH vm₁ ∧ Stand p l e R s m args below meth c B.U B.locs B.cells B.slots ∧ Post ⟨T.setVm vm₁, locs, cells, slots⟩ argsL.toArray v B ∧
      ∀ target, Steps p.tables e below (B.U.setTop { g with pc := g.pc + 3, stack := v.toList ++ rest }) target → Steps p.tables e below (T.setTop g) target) ∨
    (∃ (q : Addr) (vm₁ : Vm) (B : Pt), s.WarmedH vm₁ ∧ Stand p l e R s m args below meth c B.U B.locs B.cells B.slots ∧ PostX ⟨T.setVm vm₁, locs, cells, slots⟩ argsL.toArray q B ∧
      Steps p.tables e below (T.setTop g) ((B.U.setTop { g with stack := rest }).pushFrame (.throwing q))) := by
  obtain ⟨mk, methM, cM, hnamed, hmethM, -, -, -, -, -, -, hsigM⟩ := Cond.codeWith_spec hcode
  have hstatic : methM.isStatic = true := Cond.static_spec hnamed hmethM hstat
  obtain ⟨kP, hkP, -⟩ := className_of_methodNamed hnamed
  have hinitP : kP.init = .initialized := Cond.initialized_spec (findClass_of_methodNamed hnamed) hkP hinit
  obtain ⟨vm₁, X₁, hstep₁⟩ := X.invokestatic hexec hown hlink hnamed hmethM hstatic hkP hinitP hy (g := g) hg (argsL := argsL) (rest := rest) (hlen _ hsigM) hstack hdg
  rcases hK m meth c ⟨T.setVm vm₁, locs, cells, slots⟩ { g with stack := rest } (.invokestatic index) mk argsL.toArray X₁ hg hsize hdg hW (X₁.named hnamed) (hpre vm₁ X₁.warmed) with ⟨v, B, X', hpost, hsteps⟩ | ⟨q, B, X', hpost, hsteps⟩
  · exact Or.inl ⟨v, vm₁, B, X₁.warmed, X', hpost, fun target h => hstep₁ _ fun acts => by rw [doInvoke_state]; exact hsteps.trans h⟩
  · exact Or.inr ⟨q, vm₁, B, X₁.warmed, X', hpost, hstep₁ _ fun acts => by rw [doInvoke_state]; exact hsteps⟩
theorem vx_callVW (X : Stand p l e R s m args below meth c T locs cells slots) (hexec : p.tables.exec = Jvm.exec) {own C : String} {index : Nat} {y : MethodName} {bytes : ByteArray} {maxL : Nat} {ret : Option FieldType} {hh : List (Nat × Nat × Nat × Nat)}
    (hown : s.vm.findClass own = some m.cls) (hlink : (Cond.methodLink own index y).before args s = true) (hinst : (Cond.instanceMethod y).before args s = true) (hsel : (Cond.selects C y y).before args s = true)
    (hcode : (Cond.codeWith y bytes maxL ret hh).before args s = true) (hy : y.cls ≠ "java/lang/invoke/MethodHandle" ∧ y.cls ≠ "java/lang/invoke/VarHandle")
    {W9 : Nat} {Pre : Pt → Array Value → Prop} {Post : Pt → Array Value → Option Value → Pt → Prop} (hK : Back l R p e below s args y 3 W9 Pre Post)
    {b : Addr} {cellB : Cell} (hcell : T.heap[b]? = some cellB) (hobj : cellB.vm.isStatics = false) (hcls : s.vm.findClass C = some cellB.cls)
    {g : JFrame} (hg : g.method = m) (hsize : g.locals.size = c.maxLocals) {argsL rest : List Value} (hlen : ∀ sig, parseMethodDescriptor y.desc = some sig → argsL.length = sig.parameters.length)
    (hstack : g.stack = argsL.reverse ++ .ref b :: rest) (hW : 2 * g.monitorRoom + (rest.map fun v => v.category).sum ≤ W9) (hdg : decode c.code g.pc = .ok (.invokevirtual index, 3))
    (hpre : ∀ vm₁, s.WarmedH vm₁ → Pre ⟨T.setVm vm₁, locs, cells, slots⟩ (Value.ref b :: argsL).toArray) :
    ∃ (v : Option Value) (vm₁ : Vm) (B : Pt), s.WarmedH vm₁ ∧ Stand p l e R s m args below meth c B.U B.locs B.cells B.slots ∧ Post ⟨T.setVm vm₁, locs, cells, slots⟩ (Value.ref b :: argsL).toArray v B ∧
      ∀ target, Steps p.tables e below (B.U.setTop { g with pc := g.pc + 3, stack := v.toList ++ rest }) target → Steps p.tables e below (T.setTop g) target := by
  obtain ⟨mk, methM, hnamed, hmethM, hstM, habM⟩ := Cond.instanceMethod_spec hinst
  obtain ⟨m8, methM', cM, hn8, hmethM', -, -, -, -, -, -, hsigM⟩ := Cond.codeWith_spec hcode
  cases Option.some.inj (hn8.symm.trans hnamed)
  cases hmethM.symm.trans hmethM'
  obtain ⟨c2, r2, m2, q1, q2, q3, q4, kP, hkP, hkPi⟩ := Cond.selects_spec hsel
  cases hcls.symm.trans q1
  cases (State.methodFound?_of_named hnamed hy).symm.trans q2
  cases hnamed.symm.trans q3
  have hselP : selectMethod e.platform s.vm cellB.cls mk = .method mk := by rw [Launch.admits_selectMethod X.admits]; exact q4
  obtain ⟨vm₁, X₁, hstep₁⟩ := X.invokevirtual hexec hown hlink hnamed hmethM hstM hkP hkPi hy (a := b) (cell := cellB) hcell
    (fun z h => by rw [h] at hobj; cases hobj) hselP hmethM habM hkP hkPi (g := g) hg (argsL := argsL) (rest := rest) (hlen _ hsigM) hstack hdg
  obtain ⟨v, B, X', hpost, hsteps⟩ := hK m meth c ⟨T.setVm vm₁, locs, cells, slots⟩ { g with stack := rest } (.invokevirtual index) mk (Value.ref b :: argsL).toArray X₁ hg hsize hdg hW (X₁.named hnamed) (hpre vm₁ X₁.warmed)
  exact ⟨v, vm₁, B, X₁.warmed, X', hpost, fun target h => hstep₁ _ fun acts => by rw [doInvoke_state]; exact hsteps.trans h⟩
abbrev vx_CVW (R : Room) (s : State) (args : Array Value) (own C : String) (index : Nat) (y : MethodName) (bytes : ByteArray) (maxL : Nat) (ret : Option FieldType) (hh : List (Nat × Nat × Nat × Nat)) (ws : List Cond) (rm : Room) (mc ms n : Nat) : Prop :=
  (rm.cells = mc ∧ rm.slots = ms ∧ rm.frames + 1 ≤ R.frames ∧ 8 + (maxL + 11) + rm.locals ≤ R.locals ∧ (∀ w ∈ ws, ∀ (a' : Array Value) (U : State), s.WarmedH U.vm → w.before a' U = true) ∧ Cond.codeWith y bytes maxL ret hh ∈ ws) ∧
  (Cond.codeWith y bytes maxL ret hh).before args s = true ∧ (Cond.initialized y.cls).before args s = true ∧ (y.cls ≠ "java/lang/invoke/MethodHandle" ∧ y.cls ≠ "java/lang/invoke/VarHandle") ∧
  (∀ sig, parseMethodDescriptor y.desc = some sig → n = sig.parameters.length) ∧ (Cond.methodLink own index y).before args s = true ∧ (Cond.instanceMethod y).before args s = true ∧ (Cond.selects C y y).before args s = true
theorem vx_cwVW {own C : String} {index maxL mc ms : Nat} {y : MethodName} {bytes : ByteArray} {ret : Option FieldType} {hh : List (Nat × Nat × Nat × Nat)} {Ts ws ws' : List Cond} {rm : Room} (n : Nat) (ht : ∀ w ∈ Ts, w.before args s = true) (hT : GoodIn Ts (wsV own index C y ws)) (hw : ws = Cond.codeWith y bytes maxL ret hh :: ws') (hrc : rm.cells = mc) (hrs : rm.slots = ms)
    (hd : y.cls = C ∧ y.cls ≠ "java/lang/invoke/MethodHandle" ∧ y.cls ≠ "java/lang/invoke/VarHandle" ∧ (parseMethodDescriptor y.desc).map (fun d => d.parameters.length) = some n) (hR : rm.frames + 1 ≤ R.frames ∧ 8 + (maxL + 11) + rm.locals ≤ R.locals) :
    vx_CVW R s args own C index y bytes maxL ret hh ws rm mc ms n := by
  obtain ⟨hC, hd⟩ := hd
  subst hC
  have ok : ∀ w ∈ wsV own index y.cls y ws, w.before args s = true := fun w h => ht w (hT w h).1
  have hG : GoodIn Ts ws := fun w h => hT w (by unfold wsV; exact List.mem_append_right _ h)
  have hc : Cond.codeWith y bytes maxL ret hh ∈ ws := by rw [hw]; exact List.mem_cons_self
  refine ⟨⟨hrc, hrs, hR.1, hR.2, pay_in ht hG, hc⟩, ht _ (hG _ hc).1, ok _ (by simp [wsV]), ⟨hd.1, hd.2.1⟩, fun sig h => ?_, ok _ (by simp [wsV]), ok _ (by simp [wsV]), ok _ (by simp [wsV])⟩
  have h2 := hd.2.2
  rw [h] at h2
  exact (Option.some.inj h2).symm
theorem vx_runVW {y : MethodName} {bytes cc : ByteArray} {maxL nL mc ms n index : Nat} {ret : Option FieldType} {hh : List (Nat × Nat × Nat × Nat)} {ws : List Cond} {rm : Room} {Pc : Array Value → State → Prop} {Qc : Array Value → State → Outcome → State → Prop} {free : Addr → Prop} {Ts : List Cond} {own C : String} {b : Addr} {As rest : List Value} {g : JFrame}
    (S : CallFix p m c cc nL s args Ts own) (hM : Met l y ws rm Pc Qc mc ms free) (cw : vx_CVW R s args own C index y bytes maxL ret hh ws rm mc ms n) (hp : PreV s H C b Pc As)
    (hg : g.method = m) (hn : As.length = n) (hsize : g.locals.size = nL) (hstack : g.stack = As.reverse ++ .ref b :: rest) (hW : 2 * g.monitorRoom + (rest.map fun v => v.category).sum ≤ 8) (hdg : decode cc g.pc = .ok (.invokevirtual index, 3)) (hf : cells + mc ≤ R.cells ∧ slots + ms ≤ R.slots) :
    va_Run p l e R s m args below meth c H locs cells slots mc ms g rest (Qc (Value.ref b :: As).toArray) free := by
  obtain ⟨⟨hrc, hrs, hfr, hlo, hws, hcw⟩, hcode, hini, hy, hlen, hl, hin, hse⟩ := cw
  have hK : Back l R p e below s args y 3 8 (PreOf R mc ms Pc) (PostOf Qc mc ms free) := va_backW (hh := hh) (bytes := bytes) (maxL := maxL) (ret := ret) hM hp.1 hrc hrs hfr hlo hws hcw (fun a' U hW => word_at hW (Or.inl (by first | rfl | simp [Cond.onTables, Cond.keeps, Cond.steady])) hini)
  obtain ⟨hx, hb, hml, ho, -⟩ := S
  obtain ⟨-, ⟨cellB, hcB, hoB, hclB⟩, hPc⟩ := hp
  intro T hT X
  obtain ⟨v, vm₁, ⟨U', l2, c2, s2⟩, hW₁, X', ⟨g', mk, t, L, e1, e2, hq, h1, hL, h2, h3⟩, st⟩ := vx_callVW X hx (C := C) (hh := hh) (bytes := bytes) (maxL := maxL) (ret := ret) ho hl hin hse hcode hy hK (by rw [hT]; exact hcB) hoB hclB hg (hsize.trans hml.symm) (argsL := As) (rest := rest) (fun sig h => hn.trans (hlen sig h)) hstack hW (by rw [hb]; exact hdg)
    (fun vm₁ hW₁ => ⟨hf.1, hf.2, hPc (T.setVm vm₁) hT hW₁⟩)
  dsimp only [Pt.U, Pt.locs, Pt.cells, Pt.slots] at X' e1 e2 h1 h2 h3 st
  subst h1; subst h2; subst h3
  exact ⟨v, (T.setVm vm₁).calling g' mk (Value.ref b :: As).toArray, t, U', L, hT, X', hL, e1, e2, hq, st⟩
section
variable {y : MethodName} {bytes cc : ByteArray} {maxL nL mc ms n index : Nat} {ret : Option FieldType} {ws : List Cond} {rm : Room} {Pc : Array Value → State → Prop} {Qc : Array Value → State → Outcome → State → Prop} {XC : String → State → State → Prop} {free : Addr → Prop} {Ts : List Cond} {own C : String} {b : Addr} {As rest : List Value} {g : JFrame}
theorem vx_runVX {hh : List (Nat × Nat × Nat × Nat)} (S : CallFix p m c cc nL s args Ts own) (hM : vx_Met l y ws rm Pc Qc XC mc ms free) (cw : vx_CVW R s args own C index y bytes maxL ret hh ws rm mc ms n) (hp : PreV s H C b Pc As)
    (hg : g.method = m) (hn : As.length = n) (hsize : g.locals.size = nL) (hstack : g.stack = As.reverse ++ .ref b :: rest) (hW : 2 * g.monitorRoom + (rest.map fun v => v.category).sum ≤ 8) (hdg : decode cc g.pc = .ok (.invokevirtual index, 3)) (hf : cells + mc ≤ R.cells ∧ slots + ms ≤ R.slots) :
    vx_Run p l e R s m args below meth c H locs cells slots mc ms g rest (Qc (Value.ref b :: As).toArray) XC free := by
  obtain ⟨⟨hrc, hrs, hfr, hlo, hws, hcw⟩, hcode, hini, hy, hlen, hl, hin, hse⟩ := cw
  have hK : vx_Back l R p e below s args y 3 8 (PreOf R mc ms Pc) (PostOf Qc mc ms free) (vx_Post XC mc ms free) := vx_backW (hh := hh) (bytes := bytes) (maxL := maxL) (ret := ret) hM hp.1 hrc hrs hfr hlo hws hcw (fun a' U hW => word_at hW (Or.inl (by first | rfl | simp [Cond.onTables, Cond.keeps, Cond.steady])) hini)
  obtain ⟨hx, hb, hml, ho, -⟩ := S
  obtain ⟨-, ⟨cellB, hcB, hoB, hclB⟩, hPc⟩ := hp
  intro T hT X
  rcases vx_callVX X hx (C := C) (hh := hh) (bytes := bytes) (maxL := maxL) (ret := ret) ho hl hin hse hcode hy hK (by rw [hT]; exact hcB) hoB hclB hg (hsize.trans hml.symm) (argsL := As) (rest := rest) (fun sig h => hn.trans (hlen sig h)) hstack hW (by rw [hb]; exact hdg)
    (fun vm₁ hW₁ => ⟨hf.1, hf.2, hPc (T.setVm vm₁) hT hW₁⟩) with ⟨v, vm₁, ⟨U', l2, c2, s2⟩, hW₁, X', ⟨g', mk, t, L, e1, e2, hq, h1, hL, h2, h3⟩, st⟩ | ⟨q, vm₁, ⟨U', l2, c2, s2⟩, hW₁, X', ⟨g', mk, t, L, E, ce, e1, e2, hq, hce, hcv, hcl, h1, hL, h2, h3⟩, st⟩
  · dsimp only [Pt.U, Pt.locs, Pt.cells, Pt.slots] at X' e1 e2 h1 h2 h3 st
    subst h1; subst h2; subst h3
    exact Or.inl ⟨v, (T.setVm vm₁).calling g' mk (Value.ref b :: As).toArray, t, U', L, hT, X', hL, e1, e2, hq, st⟩
  · dsimp only [Pt.U, Pt.locs, Pt.cells, Pt.slots] at X' e1 e2 h1 h2 h3 st hcl
    subst h1; subst h2; subst h3
    exact Or.inr ⟨q, (T.setVm vm₁).calling g' mk (Value.ref b :: As).toArray, t, U', L, E, ce, hT, X', hL, e1, e2, hq, hce, hcv, vx_cls hW₁ hcl, st⟩
theorem vx_runSX {hh : List (Nat × Nat × Nat × Nat)} (S : CallFix p m c cc nL s args Ts own) (hM : vx_Met l y ws rm Pc Qc XC mc ms free) (cw : vx_CSW R s args own index y bytes maxL ret hh ws rm mc ms n) (hp : PreS s H Pc As)
    (hg : g.method = m) (hn : As.length = n) (hsize : g.locals.size = nL) (hstack : g.stack = As.reverse ++ rest) (hW : 2 * g.monitorRoom + (rest.map fun v => v.category).sum ≤ 8) (hdg : decode cc g.pc = .ok (.invokestatic index, 3)) (hf : cells + mc ≤ R.cells ∧ slots + ms ≤ R.slots) :
    vx_Run p l e R s m args below meth c H locs cells slots mc ms g rest (Qc As.toArray) XC free := by
  obtain ⟨⟨hrc, hrs, hfr, hlo, hws, hcw⟩, hcode, hini, hy, hlen, hl, hstt⟩ := cw
  have hK : vx_Back l R p e below s args y 3 8 (PreOf R mc ms Pc) (PostOf Qc mc ms free) (vx_Post XC mc ms free) := vx_backW (hh := hh) (bytes := bytes) (maxL := maxL) (ret := ret) hM hp.1 hrc hrs hfr hlo hws hcw (fun a' U hW => word_at hW (Or.inl (by first | rfl | simp [Cond.onTables, Cond.keeps, Cond.steady])) hini)
  obtain ⟨hx, hb, hml, ho, -⟩ := S
  intro T hT X
  rcases vx_callSX X hx (hh := hh) (bytes := bytes) (maxL := maxL) (ret := ret) ho hl hstt hini hcode hy hK hg (hsize.trans hml.symm) (argsL := As) (rest := rest) (fun sig h => hn.trans (hlen sig h)) hstack hW (by rw [hb]; exact hdg)
    (fun vm₁ hW₁ => ⟨hf.1, hf.2, hp.2 (T.setVm vm₁) hT hW₁⟩) with ⟨v, vm₁, ⟨U', l2, c2, s2⟩, hW₁, X', ⟨g', mk, t, L, e1, e2, hq, h1, hL, h2, h3⟩, st⟩ | ⟨q, vm₁, ⟨U', l2, c2, s2⟩, hW₁, X', ⟨g', mk, t, L, E, ce, e1, e2, hq, hce, hcv, hcl, h1, hL, h2, h3⟩, st⟩
  · dsimp only [Pt.U, Pt.locs, Pt.cells, Pt.slots] at X' e1 e2 h1 h2 h3 st
    subst h1; subst h2; subst h3
    exact Or.inl ⟨v, (T.setVm vm₁).calling g' mk As.toArray, t, U', L, hT, X', hL, e1, e2, hq, st⟩
  · dsimp only [Pt.U, Pt.locs, Pt.cells, Pt.slots] at X' e1 e2 h1 h2 h3 st hcl
    subst h1; subst h2; subst h3
    exact Or.inr ⟨q, (T.setVm vm₁).calling g' mk As.toArray, t, U', L, E, ce, hT, X', hL, e1, e2, hq, hce, hcv, vx_cls hW₁ hcl, st⟩
end
end VXH
theorem vx_ofWH {l : Launch} {y : MethodName} {ws ws' : List Cond} {rm : Room} {Pc : Array Value → State → Prop} {Qc : Array Value → State → Outcome → State → Prop} {XC : String → State → State → Prop} {mc ms : Nat} {free : Addr → Prop} {cc : ByteArray} {maxL : Nat} {ret : Option FieldType} {hh : List (Nat × Nat × Nat × Nat)}
    (hy : plainName y.cls = true) (hw : ws = Cond.codeWith y cc maxL ret hh :: ws')
    (body : ∀ p e s m args below meth c s₁, BodyLoose p l y (headSpec ws rm) cc maxL ret e s m args below meth c s₁ → c.maxLocals = maxL → Pc args s →
      W p l e (headSpec ws rm).room s m args below meth c s.heap [] 0 0 (vx_MQ below Qc XC args s mc ms free) (entryFrame m args maxL)) : vx_Met l y ws rm Pc Qc XC mc ms free := by
  refine MetFree.of_bodyS (code := cc) (maxLocals := maxL) (ret := ret) hy ?_ ?_
  · intro args s m h hn
    obtain ⟨m9, meth, c, hn9, h1, h2, h3, h4, -, h5, h6, -⟩ := Cond.codeWith_spec (atoms_spec (ws := ws) h _ (by rw [hw]; exact List.mem_cons_self))
    cases hn.symm.trans hn9
    exact ⟨meth, c, h1, h2, h3, h4, h5, h6⟩
  · intro p e s m args below meth c s₁ B hml hP _
    have hh0 : s₁.heap = s.heap := by rw [B.state]; rfl
    obtain ⟨t, a1, o, b1, b2, b3⟩ := body p e s m args below meth c s₁ B hml hP s₁ hh0 (Stand.of_body B)
    exact ⟨t, o, a1, b1, b2, b3⟩
/-! ===== END ===== -/

/-! ===== BEGIN printed: names, fields, word lists, decode rows ===== -/
def RX0 : String := "ArchivistTricks$Archivist"
def TX0 : u_T := fun k => match k with
  | 0 => ("ArchivistTricks$Archivist", "hand", "J", false)
  | 1 => ("ArchivistTricks$Archivist", "taken", "J", false)
  | 2 => ("ArchivistTricks$Archivist", "points", "I", false)
  | 3 => ("ArchivistTricks$Archivist", "tricks", "I", false)
  | _ => ("ArchivistTricks$Archivist", "gloves", "I", false)
def tyX0 : Nat → FieldType := fun k => match k with
  | 0 => .long
  | 1 => .long
  | 2 => .int
  | 3 => .int
  | _ => .int
abbrev wsX00 : List Cond := u_ws RX0 TX0 5
theorem nmX0 : ∀ a, a < 5 → ∀ b, b < 5 → a ≠ b → (TX0 a).2.1 ≠ (TX0 b).2.1 := by decide +kernel
theorem tyX0_ok : ∀ k, k < 5 → parseFieldDescriptor (TX0 k).2.2.1 = some (tyX0 k) := by decide +kernel
abbrev cX0_init : ByteArray := prog_2_method_1_code
def yX0_init : MethodName := ⟨RX0, "<init>", "()V"⟩
abbrev cX0_begin : ByteArray := prog_2_method_2_code
def yX0_begin : MethodName := ⟨RX0, "begin", "(J)V"⟩
abbrev cX0_loseWornGloves : ByteArray := prog_2_method_3_code
def yX0_loseWornGloves : MethodName := ⟨RX0, "loseWornGloves", "()V"⟩
def RX1 : String := "ArchivistTricks$Ending"
def TX1 : u_T := fun k => match k with
  | _ => ("", "", "", false)
def tyX1 : Nat → FieldType := fun k => match k with
  | _ => .int
abbrev wsX10 : List Cond := u_ws RX1 TX1 0
theorem nmX1 : ∀ a, a < 0 → ∀ b, b < 0 → a ≠ b → (TX1 a).2.1 ≠ (TX1 b).2.1 := by decide +kernel
theorem tyX1_ok : ∀ k, k < 0 → parseFieldDescriptor (TX1 k).2.2.1 = some (tyX1 k) := by decide +kernel
def RX2 : String := "ArchivistTricks"
def TX2 : u_T := fun k => match k with
  | 0 => ("ArchivistTricks", "row", "[I", true)
  | 1 => ("ArchivistTricks", "first", "LArchivistTricks$Archivist;", true)
  | 2 => ("ArchivistTricks", "second", "LArchivistTricks$Archivist;", true)
  | 3 => ("ArchivistTricks", "drawn", "I", false)
  | 4 => ("ArchivistTricks", "trumpProvenance", "I", false)
  | 5 => ("ArchivistTricks", "ledCard", "I", false)
  | 6 => ("ArchivistTricks", "mover", "I", false)
  | 7 => ("ArchivistTricks", "firstWins", "I", false)
  | 8 => ("ArchivistTricks", "secondWins", "I", false)
  | 9 => ("ArchivistTricks", "ending", "LArchivistTricks$Ending;", false)
  | _ => ("ArchivistTricks", "endingBegun", "Z", false)
def tyX2 : Nat → FieldType := fun k => match k with
  | 0 => .array .int
  | 1 => .object "ArchivistTricks$Archivist"
  | 2 => .object "ArchivistTricks$Archivist"
  | 3 => .int
  | 4 => .int
  | 5 => .int
  | 6 => .int
  | 7 => .int
  | 8 => .int
  | 9 => .object "ArchivistTricks$Ending"
  | _ => .boolean
abbrev wsX20 : List Cond := u_ws RX2 TX2 11
theorem nmX2 : ∀ a, a < 11 → ∀ b, b < 11 → a ≠ b → (TX2 a).2.1 ≠ (TX2 b).2.1 := by decide +kernel
theorem tyX2_ok : ∀ k, k < 11 → parseFieldDescriptor (TX2 k).2.2.1 = some (tyX2 k) := by decide +kernel
abbrev cX2_init : ByteArray := prog_1_method_1_code
def yX2_init : MethodName := ⟨RX2, "<init>", "()V"⟩
abbrev cX2_deal : ByteArray := prog_1_method_2_code
def yX2_deal : MethodName := ⟨RX2, "deal", "(J)I"⟩
abbrev cX2_play : ByteArray := prog_1_method_3_code
def yX2_play : MethodName := ⟨RX2, "play", "(I)I"⟩
abbrev cX2_putOnGloves : ByteArray := prog_1_method_4_code
def yX2_putOnGloves : MethodName := ⟨RX2, "putOnGloves", "()I"⟩
abbrev cX2_whyNot : ByteArray := prog_1_method_5_code
def yX2_whyNot : MethodName := ⟨RX2, "whyNot", "(I)I"⟩
abbrev cX2_isPlaying : ByteArray := prog_1_method_6_code
def yX2_isPlaying : MethodName := ⟨RX2, "isPlaying", "()Z"⟩
abbrev cX2_turn : ByteArray := prog_1_method_7_code
def yX2_turn : MethodName := ⟨RX2, "turn", "()I"⟩
abbrev cX2_led : ByteArray := prog_1_method_8_code
def yX2_led : MethodName := ⟨RX2, "led", "()I"⟩
abbrev cX2_trumps : ByteArray := prog_1_method_9_code
def yX2_trumps : MethodName := ⟨RX2, "trumps", "()I"⟩
abbrev cX2_pile : ByteArray := prog_1_method_10_code
def yX2_pile : MethodName := ⟨RX2, "pile", "()I"⟩
abbrev cX2_cards : ByteArray := prog_1_method_11_code
def yX2_cards : MethodName := ⟨RX2, "cards", "(I)I"⟩
abbrev cX2_cardAt : ByteArray := prog_1_method_12_code
def yX2_cardAt : MethodName := ⟨RX2, "cardAt", "(II)I"⟩
abbrev cX2_placeOf : ByteArray := prog_1_method_13_code
def yX2_placeOf : MethodName := ⟨RX2, "placeOf", "(I)I"⟩
abbrev cX2_points : ByteArray := prog_1_method_14_code
def yX2_points : MethodName := ⟨RX2, "points", "(I)I"⟩
abbrev cX2_tricks : ByteArray := prog_1_method_15_code
def yX2_tricks : MethodName := ⟨RX2, "tricks", "(I)I"⟩
abbrev cX2_gloves : ByteArray := prog_1_method_16_code
def yX2_gloves : MethodName := ⟨RX2, "gloves", "(I)I"⟩
abbrev cX2_choices : ByteArray := prog_1_method_17_code
def yX2_choices : MethodName := ⟨RX2, "choices", "()I"⟩
abbrev cX2_wouldTake : ByteArray := prog_1_method_18_code
def yX2_wouldTake : MethodName := ⟨RX2, "wouldTake", "(I)I"⟩
abbrev cX2_wonByFirst : ByteArray := prog_1_method_21_code
def yX2_wonByFirst : MethodName := ⟨RX2, "wonByFirst", "()I"⟩
abbrev cX2_wonBySecond : ByteArray := prog_1_method_22_code
def yX2_wonBySecond : MethodName := ⟨RX2, "wonBySecond", "()I"⟩
abbrev cX2_shuffle : ByteArray := prog_1_method_23_code
def yX2_shuffle : MethodName := ⟨RX2, "shuffle", "(J)V"⟩
abbrev cX2_exchange : ByteArray := prog_1_method_24_code
def yX2_exchange : MethodName := ⟨RX2, "exchange", "(II)V"⟩
abbrev cX2_putTurnedUpLast : ByteArray := prog_1_method_25_code
def yX2_putTurnedUpLast : MethodName := ⟨RX2, "putTurnedUpLast", "()V"⟩
abbrev cX2_handFrom : ByteArray := prog_1_method_26_code
def yX2_handFrom : MethodName := ⟨RX2, "handFrom", "(I)J"⟩
abbrev cX2_drawFor : ByteArray := prog_1_method_27_code
def yX2_drawFor : MethodName := ⟨RX2, "drawFor", "(LArchivistTricks$Archivist;)V"⟩
abbrev cX2_reasonAgainst : ByteArray := prog_1_method_28_code
def yX2_reasonAgainst : MethodName := ⟨RX2, "reasonAgainst", "(I)I"⟩
abbrev cX2_takerBy : ByteArray := prog_1_method_29_code
def yX2_takerBy : MethodName := ⟨RX2, "takerBy", "(I)I"⟩
abbrev cX2_finishTrick : ByteArray := prog_1_method_30_code
def yX2_finishTrick : MethodName := ⟨RX2, "finishTrick", "(I)I"⟩
abbrev cX2_endGame : ByteArray := prog_1_method_31_code
def yX2_endGame : MethodName := ⟨RX2, "endGame", "()V"⟩
abbrev cX2_archivist : ByteArray := prog_1_method_32_code
def yX2_archivist : MethodName := ⟨RX2, "archivist", "(I)LArchivistTricks$Archivist;"⟩
abbrev cX2_moversHand : ByteArray := prog_1_method_33_code
def yX2_moversHand : MethodName := ⟨RX2, "moversHand", "()J"⟩
abbrev cX2_isCard : ByteArray := prog_1_method_38_code
def yX2_isCard : MethodName := ⟨RX2, "isCard", "(I)Z"⟩
abbrev cX2_isArchivist : ByteArray := prog_1_method_39_code
def yX2_isArchivist : MethodName := ⟨RX2, "isArchivist", "(I)Z"⟩
abbrev cX2_isMildew : ByteArray := prog_1_method_40_code
def yX2_isMildew : MethodName := ⟨RX2, "isMildew", "(I)Z"⟩
abbrev cX2_bit : ByteArray := prog_1_method_41_code
def yX2_bit : MethodName := ⟨RX2, "bit", "(I)J"⟩
abbrev cX2_has : ByteArray := prog_1_method_42_code
def yX2_has : MethodName := ⟨RX2, "has", "(JI)Z"⟩
abbrev cX2_allOf : ByteArray := prog_1_method_43_code
def yX2_allOf : MethodName := ⟨RX2, "allOf", "(I)J"⟩
abbrev cX2_worth : ByteArray := prog_1_method_44_code
def yX2_worth : MethodName := ⟨RX2, "worth", "(IZ)I"⟩
abbrev cX2_beats : ByteArray := prog_1_method_45_code
def yX2_beats : MethodName := ⟨RX2, "beats", "(III)Z"⟩
abbrev cX2_reasonAgainstLeading : ByteArray := prog_1_method_46_code
def yX2_reasonAgainstLeading : MethodName := ⟨RX2, "reasonAgainstLeading", "(JI)I"⟩
abbrev cX2_reasonAgainstReplying : ByteArray := prog_1_method_47_code
def yX2_reasonAgainstReplying : MethodName := ⟨RX2, "reasonAgainstReplying", "(JIII)I"⟩
def RX3 : String := "ArchivistTricksModel"
def TX3 : u_T := fun k => match k with
  | _ => ("", "", "", false)
def tyX3 : Nat → FieldType := fun k => match k with
  | _ => .int
abbrev wsX30 : List Cond := u_ws RX3 TX3 0
theorem nmX3 : ∀ a, a < 0 → ∀ b, b < 0 → a ≠ b → (TX3 a).2.1 ≠ (TX3 b).2.1 := by decide +kernel
theorem tyX3_ok : ∀ k, k < 0 → parseFieldDescriptor (TX3 k).2.2.1 = some (tyX3 k) := by decide +kernel
def RJx145de : String := "java/io/Serializable"
def TJx145de : u_T := fun k => match k with
  | _ => ("", "", "", false)
def tyJx145de : Nat → FieldType := fun k => match k with
  | _ => .int
abbrev wsJx145de0 : List Cond := u_ws RJx145de TJx145de 0
theorem nmJx145de : ∀ a, a < 0 → ∀ b, b < 0 → a ≠ b → (TJx145de a).2.1 ≠ (TJx145de b).2.1 := by decide +kernel
theorem tyJx145de_ok : ∀ k, k < 0 → parseFieldDescriptor (TJx145de k).2.2.1 = some (tyJx145de k) := by decide +kernel
def RJ13 : String := "java/lang/Long"
def TJ13 : u_T := fun k => match k with
  | _ => ("", "", "", false)
def tyJ13 : Nat → FieldType := fun k => match k with
  | _ => .int
abbrev wsJ130 : List Cond := u_ws RJ13 TJ13 0
theorem nmJ13 : ∀ a, a < 0 → ∀ b, b < 0 → a ≠ b → (TJ13 a).2.1 ≠ (TJ13 b).2.1 := by decide +kernel
theorem tyJ13_ok : ∀ k, k < 0 → parseFieldDescriptor (TJ13 k).2.2.1 = some (tyJ13 k) := by decide +kernel
abbrev cJ13_bitCount_95d88 : ByteArray := prog_10_method_50_code
def yJ13_bitCount_95d88 : MethodName := ⟨RJ13, "bitCount", "(J)I"⟩
def RJ0 : String := "java/lang/String"
def TJ0 : u_T := fun k => match k with
  | _ => ("", "", "", false)
def tyJ0 : Nat → FieldType := fun k => match k with
  | _ => .int
abbrev wsJ00 : List Cond := u_ws RJ0 TJ0 0
theorem nmJ0 : ∀ a, a < 0 → ∀ b, b < 0 → a ≠ b → (TJ0 a).2.1 ≠ (TJ0 b).2.1 := by decide +kernel
theorem tyJ0_ok : ∀ k, k < 0 → parseFieldDescriptor (TJ0 k).2.2.1 = some (tyJ0 k) := by decide +kernel
def RJ10 : String := "java/lang/System"
def TJ10 : u_T := fun k => match k with
  | _ => ("", "", "", false)
def tyJ10 : Nat → FieldType := fun k => match k with
  | _ => .int
abbrev wsJ100 : List Cond := u_ws RJ10 TJ10 0
theorem nmJ10 : ∀ a, a < 0 → ∀ b, b < 0 → a ≠ b → (TJ10 a).2.1 ≠ (TJ10 b).2.1 := by decide +kernel
theorem tyJ10_ok : ∀ k, k < 0 → parseFieldDescriptor (TJ10 k).2.2.1 = some (tyJ10 k) := by decide +kernel
def RL : String := "ArchivistTricksLaw"
abbrev cL_drawn : ByteArray := method_2_code
def yL_drawn : MethodName := ⟨RL, "drawn", "([III)I"⟩
abbrev cL_worth : ByteArray := method_3_code
def yL_worth : MethodName := ⟨RL, "worth", "(I)I"⟩
abbrev cL_isLaidRight : ByteArray := method_4_code
def yL_isLaidRight : MethodName := ⟨RL, "isLaidRight", "(LArchivistTricks;I)Z"⟩
abbrev cL_isFree : ByteArray := method_5_code
def yL_isFree : MethodName := ⟨RL, "isFree", "(LArchivistTricks;)Z"⟩
abbrev cL_law : ByteArray := code
def yL_law : MethodName := ⟨RL, "law", "([I)Z"⟩
def wsX0_init : List Cond := .code yX0_init cX0_init 1 none :: ([.methodLink RX0 3 objectInit, .instanceMethod objectInit, .code objectInit ⟨#[0xb1]⟩ 1 none, .fieldLink RX0 9 "ArchivistTricks$Archivist" "hand" "J", .fieldLink RX0 15 "ArchivistTricks$Archivist" "taken" "J", .fieldLink RX0 18 "ArchivistTricks$Archivist" "points" "I", .fieldLink RX0 22 "ArchivistTricks$Archivist" "tricks" "I", .fieldLink RX0 25 "ArchivistTricks$Archivist" "gloves" "I"] ++ wsX00)
def wsX0_begin : List Cond := .code yX0_begin cX0_begin 3 none :: ([.fieldLink RX0 9 "ArchivistTricks$Archivist" "hand" "J", .fieldLink RX0 15 "ArchivistTricks$Archivist" "taken" "J", .fieldLink RX0 18 "ArchivistTricks$Archivist" "points" "I", .fieldLink RX0 22 "ArchivistTricks$Archivist" "tricks" "I", .fieldLink RX0 25 "ArchivistTricks$Archivist" "gloves" "I"] ++ wsX00)
def wsX0_loseWornGloves : List Cond := .code yX0_loseWornGloves cX0_loseWornGloves 1 none :: ([.fieldLink RX0 25 "ArchivistTricks$Archivist" "gloves" "I"] ++ wsX00)
def wsX2_init_r1 : List Cond := [Cond.methodLink RX2 3 objectInit, Cond.instanceMethod objectInit, Cond.code objectInit ⟨#[0xb1]⟩ 1 none, Cond.arrayClass .int, Cond.fieldLink RX2 9 "ArchivistTricks" "row" "[I", Cond.classLink RX2 13 RX0, Cond.instantiable RX0 5, Cond.initialized RX0, Cond.fieldLink RX2 16 "ArchivistTricks" "first" "LArchivistTricks$Archivist;", Cond.fieldLink RX2 20 "ArchivistTricks" "second" "LArchivistTricks$Archivist;", Cond.fieldLink RX2 23 "ArchivistTricks" "drawn" "I", Cond.fieldLink RX2 27 "ArchivistTricks" "trumpProvenance" "I", Cond.fieldLink RX2 30 "ArchivistTricks" "ledCard" "I", Cond.fieldLink RX2 33 "ArchivistTricks" "mover" "I", Cond.fieldLink RX2 36 "ArchivistTricks" "firstWins" "I", Cond.fieldLink RX2 39 "ArchivistTricks" "secondWins" "I", Cond.fieldLink RX2 42 "ArchivistTricks" "ending" "LArchivistTricks$Ending;", Cond.fieldLink RX2 46 "ArchivistTricks" "endingBegun" "Z", Cond.instanceMethod yX0_init, Cond.code yX0_init cX0_init 1 none, Cond.methodLink RX0 3 objectInit, Cond.fieldLink RX0 9 "ArchivistTricks$Archivist" "hand" "J", Cond.fieldLink RX0 15 "ArchivistTricks$Archivist" "taken" "J", Cond.fieldLink RX0 18 "ArchivistTricks$Archivist" "points" "I"]
def wsX2_init_r2 : List Cond := [Cond.fieldLink RX0 22 "ArchivistTricks$Archivist" "tricks" "I", Cond.fieldLink RX0 25 "ArchivistTricks$Archivist" "gloves" "I"]
def wsX2_init : List Cond := .code yX2_init cX2_init 1 none :: ((wsX2_init_r1 ++ wsX2_init_r2) ++ wsX20 ++ wsX00)
def wsX2_exchange : List Cond := .code yX2_exchange cX2_exchange 4 none :: ([.fieldLink RX2 9 "ArchivistTricks" "row" "[I"] ++ wsX20)
def wsX2_shuffle : List Cond := .code yX2_shuffle cX2_shuffle 6 none :: ([.fieldLink RX2 9 "ArchivistTricks" "row" "[I", .constantLong RX2 174 (6364136223846793005), .constantLong RX2 176 (1442695040888963407), .methodLink RX2 178 yX2_exchange, .instanceMethod yX2_exchange, .selects RX2 yX2_exchange yX2_exchange, .initialized RX2, .code yX2_exchange cX2_exchange 4 none] ++ wsX20)
def wsX2_putTurnedUpLast : List Cond := .code yX2_putTurnedUpLast cX2_putTurnedUpLast 2 none :: ([.fieldLink RX2 9 "ArchivistTricks" "row" "[I", .methodLink RX2 182 arraycopyName, .native arraycopyName, .static arraycopyName, .initialized "java/lang/System"] ++ wsX20)
def wsX2_bit : List Cond := .code yX2_bit cX2_bit 1 (some .long) :: ([])
def wsX2_handFrom : List Cond := .code yX2_handFrom cX2_handFrom 5 (some .long) :: ([.fieldLink RX2 9 "ArchivistTricks" "row" "[I", .methodLink RX2 95 yX2_bit, .static yX2_bit, .initialized RX2, .code yX2_bit cX2_bit 1 (some .long)] ++ wsX20)
def wsX2_isMildew : List Cond := .code yX2_isMildew cX2_isMildew 1 (some .boolean) :: ([])
def wsX2_deal_r1 : List Cond := [Cond.fieldLink RX2 9 "ArchivistTricks" "row" "[I", Cond.fieldLink RX2 16 "ArchivistTricks" "first" "LArchivistTricks$Archivist;", Cond.fieldLink RX2 20 "ArchivistTricks" "second" "LArchivistTricks$Archivist;", Cond.fieldLink RX2 23 "ArchivistTricks" "drawn" "I", Cond.fieldLink RX2 27 "ArchivistTricks" "trumpProvenance" "I", Cond.fieldLink RX2 30 "ArchivistTricks" "ledCard" "I", Cond.fieldLink RX2 33 "ArchivistTricks" "mover" "I", Cond.fieldLink RX2 46 "ArchivistTricks" "endingBegun" "Z", Cond.methodLink RX2 50 yX2_shuffle, Cond.instanceMethod yX2_shuffle, Cond.selects RX2 yX2_shuffle yX2_shuffle, Cond.initialized RX2, Cond.code yX2_shuffle cX2_shuffle 6 none, Cond.constantLong RX2 174 (6364136223846793005), Cond.constantLong RX2 176 (1442695040888963407), Cond.methodLink RX2 178 yX2_exchange, Cond.instanceMethod yX2_exchange, Cond.selects RX2 yX2_exchange yX2_exchange, Cond.code yX2_exchange cX2_exchange 4 none, Cond.methodLink RX2 54 yX2_putTurnedUpLast, Cond.instanceMethod yX2_putTurnedUpLast, Cond.selects RX2 yX2_putTurnedUpLast yX2_putTurnedUpLast, Cond.code yX2_putTurnedUpLast cX2_putTurnedUpLast 2 none, Cond.methodLink RX2 182 arraycopyName]
def wsX2_deal_r2 : List Cond := [Cond.native arraycopyName, Cond.static arraycopyName, Cond.initialized "java/lang/System", Cond.methodLink RX2 57 yX2_handFrom, Cond.instanceMethod yX2_handFrom, Cond.selects RX2 yX2_handFrom yX2_handFrom, Cond.code yX2_handFrom cX2_handFrom 5 (some .long), Cond.methodLink RX2 95 yX2_bit, Cond.static yX2_bit, Cond.code yX2_bit cX2_bit 1 (some .long), Cond.methodLink RX2 61 yX0_begin, Cond.instanceMethod yX0_begin, Cond.selects RX0 yX0_begin yX0_begin, Cond.initialized RX0, Cond.code yX0_begin cX0_begin 3 none, Cond.fieldLink RX0 9 "ArchivistTricks$Archivist" "hand" "J", Cond.fieldLink RX0 15 "ArchivistTricks$Archivist" "taken" "J", Cond.fieldLink RX0 18 "ArchivistTricks$Archivist" "points" "I", Cond.fieldLink RX0 22 "ArchivistTricks$Archivist" "tricks" "I", Cond.fieldLink RX0 25 "ArchivistTricks$Archivist" "gloves" "I", Cond.methodLink RX2 64 yX2_isMildew, Cond.static yX2_isMildew, Cond.code yX2_isMildew cX2_isMildew 1 (some .boolean)]
def wsX2_deal : List Cond := .code yX2_deal cX2_deal 4 (some .int) :: ((wsX2_deal_r1 ++ wsX2_deal_r2) ++ wsX20 ++ wsX00)
def wsX2_isCard : List Cond := .code yX2_isCard cX2_isCard 1 (some .boolean) :: ([])
def wsX2_archivist : List Cond := .code yX2_archivist cX2_archivist 2 (some (.object "ArchivistTricks$Archivist")) :: ([.fieldLink RX2 16 "ArchivistTricks" "first" "LArchivistTricks$Archivist;", .fieldLink RX2 20 "ArchivistTricks" "second" "LArchivistTricks$Archivist;"] ++ wsX20)
def wsX2_moversHand : List Cond := .code yX2_moversHand cX2_moversHand 1 (some .long) :: ([.fieldLink RX2 33 "ArchivistTricks" "mover" "I", .fieldLink RX2 91 "ArchivistTricks$Archivist" "hand" "J", .methodLink RX2 87 yX2_archivist, .instanceMethod yX2_archivist, .selects RX2 yX2_archivist yX2_archivist, .initialized RX2, .code yX2_archivist cX2_archivist 2 (some (.object "ArchivistTricks$Archivist")), .fieldLink RX2 16 "ArchivistTricks" "first" "LArchivistTricks$Archivist;", .fieldLink RX2 20 "ArchivistTricks" "second" "LArchivistTricks$Archivist;"] ++ wsX20 ++ wsX00)
def wsX2_has : List Cond := .code yX2_has cX2_has 3 (some .boolean) :: ([])
def wsX2_reasonAgainstLeading : List Cond := .code yX2_reasonAgainstLeading cX2_reasonAgainstLeading 3 (some .int) :: ([.constantLong RX2 220 (1099511627775), .methodLink RX2 64 yX2_isMildew, .static yX2_isMildew, .initialized RX2, .code yX2_isMildew cX2_isMildew 1 (some .boolean)])
def wsX2_allOf : List Cond := .code yX2_allOf cX2_allOf 1 (some .long) :: ([.constantLong RX2 218 (1023)])
def wsX2_reasonAgainstReplying : List Cond := .code yX2_reasonAgainstReplying cX2_reasonAgainstReplying 9 (some .int) :: ([.methodLink RX2 64 yX2_isMildew, .static yX2_isMildew, .initialized RX2, .code yX2_isMildew cX2_isMildew 1 (some .boolean), .methodLink RX2 222 yX2_allOf, .static yX2_allOf, .code yX2_allOf cX2_allOf 1 (some .long), .constantLong RX2 218 (1023), .methodLink RX2 124 yX2_has, .static yX2_has, .code yX2_has cX2_has 3 (some .boolean)])
def wsX2_reasonAgainst_r1 : List Cond := [Cond.fieldLink RX2 33 "ArchivistTricks" "mover" "I", Cond.fieldLink RX2 30 "ArchivistTricks" "ledCard" "I", Cond.fieldLink RX2 23 "ArchivistTricks" "drawn" "I", Cond.fieldLink RX2 27 "ArchivistTricks" "trumpProvenance" "I", Cond.methodLink RX2 154 yX2_moversHand, Cond.instanceMethod yX2_moversHand, Cond.selects RX2 yX2_moversHand yX2_moversHand, Cond.initialized RX2, Cond.code yX2_moversHand cX2_moversHand 1 (some .long), Cond.fieldLink RX2 91 "ArchivistTricks$Archivist" "hand" "J", Cond.methodLink RX2 87 yX2_archivist, Cond.instanceMethod yX2_archivist, Cond.selects RX2 yX2_archivist yX2_archivist, Cond.code yX2_archivist cX2_archivist 2 (some (.object "ArchivistTricks$Archivist")), Cond.fieldLink RX2 16 "ArchivistTricks" "first" "LArchivistTricks$Archivist;", Cond.fieldLink RX2 20 "ArchivistTricks" "second" "LArchivistTricks$Archivist;", Cond.methodLink RX2 124 yX2_has, Cond.static yX2_has, Cond.code yX2_has cX2_has 3 (some .boolean), Cond.methodLink RX2 188 yX2_reasonAgainstLeading, Cond.static yX2_reasonAgainstLeading, Cond.code yX2_reasonAgainstLeading cX2_reasonAgainstLeading 3 (some .int), Cond.constantLong RX2 220 (1099511627775), Cond.methodLink RX2 64 yX2_isMildew]
def wsX2_reasonAgainst_r2 : List Cond := [Cond.static yX2_isMildew, Cond.code yX2_isMildew cX2_isMildew 1 (some .boolean), Cond.methodLink RX2 192 yX2_reasonAgainstReplying, Cond.static yX2_reasonAgainstReplying, Cond.code yX2_reasonAgainstReplying cX2_reasonAgainstReplying 9 (some .int), Cond.methodLink RX2 222 yX2_allOf, Cond.static yX2_allOf, Cond.code yX2_allOf cX2_allOf 1 (some .long), Cond.constantLong RX2 218 (1023)]
def wsX2_reasonAgainst : List Cond := .code yX2_reasonAgainst cX2_reasonAgainst 4 (some .int) :: ((wsX2_reasonAgainst_r1 ++ wsX2_reasonAgainst_r2) ++ wsX20 ++ wsX00)
def wsX2_beats : List Cond := .code yX2_beats cX2_beats 3 (some .boolean) :: ([.methodLink RX2 64 yX2_isMildew, .static yX2_isMildew, .initialized RX2, .code yX2_isMildew cX2_isMildew 1 (some .boolean)])
def wsX2_takerBy : List Cond := .code yX2_takerBy cX2_takerBy 2 (some .int) :: ([.fieldLink RX2 30 "ArchivistTricks" "ledCard" "I", .fieldLink RX2 27 "ArchivistTricks" "trumpProvenance" "I", .fieldLink RX2 33 "ArchivistTricks" "mover" "I", .methodLink RX2 196 yX2_beats, .static yX2_beats, .initialized RX2, .code yX2_beats cX2_beats 3 (some .boolean), .methodLink RX2 64 yX2_isMildew, .static yX2_isMildew, .code yX2_isMildew cX2_isMildew 1 (some .boolean)] ++ wsX20)
def wsX2_worth : List Cond := .code yX2_worth cX2_worth 2 (some .int) :: ([.methodLink RX2 64 yX2_isMildew, .static yX2_isMildew, .initialized RX2, .code yX2_isMildew cX2_isMildew 1 (some .boolean)])
def wsX2_drawFor : List Cond := .code yX2_drawFor cX2_drawFor 2 none :: ([.fieldLink RX2 23 "ArchivistTricks" "drawn" "I", .fieldLink RX2 91 "ArchivistTricks$Archivist" "hand" "J", .fieldLink RX2 9 "ArchivistTricks" "row" "[I", .methodLink RX2 95 yX2_bit, .static yX2_bit, .initialized RX2, .code yX2_bit cX2_bit 1 (some .long)] ++ wsX20 ++ wsX00)
def wsX2_endGame : List Cond := .code yX2_endGame cX2_endGame 1 none :: ([.fieldLink RX2 33 "ArchivistTricks" "mover" "I", .fieldLink RX2 16 "ArchivistTricks" "first" "LArchivistTricks$Archivist;", .fieldLink RX2 133 "ArchivistTricks$Archivist" "points" "I", .fieldLink RX2 20 "ArchivistTricks" "second" "LArchivistTricks$Archivist;", .fieldLink RX2 36 "ArchivistTricks" "firstWins" "I", .fieldLink RX2 39 "ArchivistTricks" "secondWins" "I"] ++ wsX20 ++ wsX00)
def wsX2_finishTrick_r1 : List Cond := [Cond.fieldLink RX2 105 "ArchivistTricks$Archivist" "gloves" "I", Cond.fieldLink RX2 133 "ArchivistTricks$Archivist" "points" "I", Cond.fieldLink RX2 30 "ArchivistTricks" "ledCard" "I", Cond.fieldLink RX2 136 "ArchivistTricks$Archivist" "tricks" "I", Cond.fieldLink RX2 130 "ArchivistTricks$Archivist" "taken" "J", Cond.fieldLink RX2 16 "ArchivistTricks" "first" "LArchivistTricks$Archivist;", Cond.fieldLink RX2 20 "ArchivistTricks" "second" "LArchivistTricks$Archivist;", Cond.fieldLink RX2 33 "ArchivistTricks" "mover" "I", Cond.fieldLink RX2 91 "ArchivistTricks$Archivist" "hand" "J", Cond.methodLink RX2 141 yX2_takerBy, Cond.instanceMethod yX2_takerBy, Cond.selects RX2 yX2_takerBy yX2_takerBy, Cond.initialized RX2, Cond.code yX2_takerBy cX2_takerBy 2 (some .int), Cond.fieldLink RX2 27 "ArchivistTricks" "trumpProvenance" "I", Cond.methodLink RX2 196 yX2_beats, Cond.static yX2_beats, Cond.code yX2_beats cX2_beats 3 (some .boolean), Cond.methodLink RX2 64 yX2_isMildew, Cond.static yX2_isMildew, Cond.code yX2_isMildew cX2_isMildew 1 (some .boolean), Cond.methodLink RX2 87 yX2_archivist, Cond.instanceMethod yX2_archivist, Cond.selects RX2 yX2_archivist yX2_archivist]
def wsX2_finishTrick_r2 : List Cond := [Cond.code yX2_archivist cX2_archivist 2 (some (.object "ArchivistTricks$Archivist")), Cond.methodLink RX2 200 yX2_worth, Cond.static yX2_worth, Cond.code yX2_worth cX2_worth 2 (some .int), Cond.methodLink RX2 95 yX2_bit, Cond.static yX2_bit, Cond.code yX2_bit cX2_bit 1 (some .long), Cond.methodLink RX2 204 yX0_loseWornGloves, Cond.instanceMethod yX0_loseWornGloves, Cond.selects RX0 yX0_loseWornGloves yX0_loseWornGloves, Cond.initialized RX0, Cond.code yX0_loseWornGloves cX0_loseWornGloves 1 none, Cond.fieldLink RX0 25 "ArchivistTricks$Archivist" "gloves" "I", Cond.methodLink RX2 207 yX2_drawFor, Cond.instanceMethod yX2_drawFor, Cond.selects RX2 yX2_drawFor yX2_drawFor, Cond.code yX2_drawFor cX2_drawFor 2 none, Cond.fieldLink RX2 23 "ArchivistTricks" "drawn" "I", Cond.fieldLink RX2 9 "ArchivistTricks" "row" "[I", Cond.methodLink RX2 211 yX2_endGame, Cond.instanceMethod yX2_endGame, Cond.selects RX2 yX2_endGame yX2_endGame, Cond.code yX2_endGame cX2_endGame 1 none, Cond.fieldLink RX2 36 "ArchivistTricks" "firstWins" "I"]
def wsX2_finishTrick_r3 : List Cond := [Cond.fieldLink RX2 39 "ArchivistTricks" "secondWins" "I"]
def wsX2_finishTrick : List Cond := .code yX2_finishTrick cX2_finishTrick 5 (some .int) :: ((wsX2_finishTrick_r1 ++ (wsX2_finishTrick_r2 ++ wsX2_finishTrick_r3)) ++ wsX00 ++ wsX20)
def wsX2_play_r1 : List Cond := [Cond.classLink RX2 71 "java/lang/IllegalArgumentException", Cond.initialized "java/lang/IllegalArgumentException", Cond.classLink RX2 82 "java/lang/IllegalStateException", Cond.initialized "java/lang/IllegalStateException", Cond.fieldLink RX2 33 "ArchivistTricks" "mover" "I", Cond.fieldLink RX2 91 "ArchivistTricks$Archivist" "hand" "J", Cond.constantLong RX2 98 (-1), Cond.fieldLink RX2 30 "ArchivistTricks" "ledCard" "I", Cond.methodLink RX2 68 yX2_isCard, Cond.static yX2_isCard, Cond.initialized RX2, Cond.code yX2_isCard cX2_isCard 1 (some .boolean), Cond.methodLink RX2 78 yX2_reasonAgainst, Cond.instanceMethod yX2_reasonAgainst, Cond.selects RX2 yX2_reasonAgainst yX2_reasonAgainst, Cond.code yX2_reasonAgainst cX2_reasonAgainst 4 (some .int), Cond.fieldLink RX2 23 "ArchivistTricks" "drawn" "I", Cond.fieldLink RX2 27 "ArchivistTricks" "trumpProvenance" "I", Cond.methodLink RX2 154 yX2_moversHand, Cond.instanceMethod yX2_moversHand, Cond.selects RX2 yX2_moversHand yX2_moversHand, Cond.code yX2_moversHand cX2_moversHand 1 (some .long), Cond.methodLink RX2 87 yX2_archivist, Cond.instanceMethod yX2_archivist]
def wsX2_play_r2 : List Cond := [Cond.selects RX2 yX2_archivist yX2_archivist, Cond.code yX2_archivist cX2_archivist 2 (some (.object "ArchivistTricks$Archivist")), Cond.fieldLink RX2 16 "ArchivistTricks" "first" "LArchivistTricks$Archivist;", Cond.fieldLink RX2 20 "ArchivistTricks" "second" "LArchivistTricks$Archivist;", Cond.methodLink RX2 124 yX2_has, Cond.static yX2_has, Cond.code yX2_has cX2_has 3 (some .boolean), Cond.methodLink RX2 188 yX2_reasonAgainstLeading, Cond.static yX2_reasonAgainstLeading, Cond.code yX2_reasonAgainstLeading cX2_reasonAgainstLeading 3 (some .int), Cond.constantLong RX2 220 (1099511627775), Cond.methodLink RX2 64 yX2_isMildew, Cond.static yX2_isMildew, Cond.code yX2_isMildew cX2_isMildew 1 (some .boolean), Cond.methodLink RX2 192 yX2_reasonAgainstReplying, Cond.static yX2_reasonAgainstReplying, Cond.code yX2_reasonAgainstReplying cX2_reasonAgainstReplying 9 (some .int), Cond.methodLink RX2 222 yX2_allOf, Cond.static yX2_allOf, Cond.code yX2_allOf cX2_allOf 1 (some .long), Cond.constantLong RX2 218 (1023), Cond.methodLink RX2 95 yX2_bit, Cond.static yX2_bit, Cond.code yX2_bit cX2_bit 1 (some .long)]
def wsX2_play_r3 : List Cond := [Cond.methodLink RX2 100 yX2_finishTrick, Cond.instanceMethod yX2_finishTrick, Cond.selects RX2 yX2_finishTrick yX2_finishTrick, Cond.code yX2_finishTrick cX2_finishTrick 5 (some .int), Cond.fieldLink RX2 105 "ArchivistTricks$Archivist" "gloves" "I", Cond.fieldLink RX2 133 "ArchivistTricks$Archivist" "points" "I", Cond.fieldLink RX2 136 "ArchivistTricks$Archivist" "tricks" "I", Cond.fieldLink RX2 130 "ArchivistTricks$Archivist" "taken" "J", Cond.methodLink RX2 141 yX2_takerBy, Cond.instanceMethod yX2_takerBy, Cond.selects RX2 yX2_takerBy yX2_takerBy, Cond.code yX2_takerBy cX2_takerBy 2 (some .int), Cond.methodLink RX2 196 yX2_beats, Cond.static yX2_beats, Cond.code yX2_beats cX2_beats 3 (some .boolean), Cond.methodLink RX2 200 yX2_worth, Cond.static yX2_worth, Cond.code yX2_worth cX2_worth 2 (some .int), Cond.methodLink RX2 204 yX0_loseWornGloves, Cond.instanceMethod yX0_loseWornGloves, Cond.selects RX0 yX0_loseWornGloves yX0_loseWornGloves, Cond.initialized RX0, Cond.code yX0_loseWornGloves cX0_loseWornGloves 1 none, Cond.fieldLink RX0 25 "ArchivistTricks$Archivist" "gloves" "I"]
def wsX2_play_r4 : List Cond := [Cond.methodLink RX2 207 yX2_drawFor, Cond.instanceMethod yX2_drawFor, Cond.selects RX2 yX2_drawFor yX2_drawFor, Cond.code yX2_drawFor cX2_drawFor 2 none, Cond.fieldLink RX2 9 "ArchivistTricks" "row" "[I", Cond.methodLink RX2 211 yX2_endGame, Cond.instanceMethod yX2_endGame, Cond.selects RX2 yX2_endGame yX2_endGame, Cond.code yX2_endGame cX2_endGame 1 none, Cond.fieldLink RX2 36 "ArchivistTricks" "firstWins" "I", Cond.fieldLink RX2 39 "ArchivistTricks" "secondWins" "I"]
def wsX2_play : List Cond := .code yX2_play cX2_play 3 (some .int) :: ((wsX2_play_r1 ++ (wsX2_play_r2 ++ (wsX2_play_r3 ++ wsX2_play_r4))) ++ wsX20 ++ wsX00 ++ (vx_atS RX2 75 "java/lang/IllegalArgumentException" ["java/lang/RuntimeException", "java/lang/Exception"]).filter goodWord ++ (vx_atS RX2 86 "java/lang/IllegalStateException" ["java/lang/RuntimeException", "java/lang/Exception"]).filter goodWord)
def wsX2_putOnGloves : List Cond := .code yX2_putOnGloves cX2_putOnGloves 2 (some .int) :: ([.classLink RX2 82 "java/lang/IllegalStateException", .initialized "java/lang/IllegalStateException", .fieldLink RX2 33 "ArchivistTricks" "mover" "I", .fieldLink RX2 105 "ArchivistTricks$Archivist" "gloves" "I", .methodLink RX2 87 yX2_archivist, .instanceMethod yX2_archivist, .selects RX2 yX2_archivist yX2_archivist, .initialized RX2, .code yX2_archivist cX2_archivist 2 (some (.object "ArchivistTricks$Archivist")), .fieldLink RX2 16 "ArchivistTricks" "first" "LArchivistTricks$Archivist;", .fieldLink RX2 20 "ArchivistTricks" "second" "LArchivistTricks$Archivist;"] ++ wsX20 ++ wsX00 ++ (vx_atS RX2 86 "java/lang/IllegalStateException" ["java/lang/RuntimeException", "java/lang/Exception"]).filter goodWord)
def wsX2_whyNot_r1 : List Cond := [Cond.classLink RX2 71 "java/lang/IllegalArgumentException", Cond.initialized "java/lang/IllegalArgumentException", Cond.methodLink RX2 68 yX2_isCard, Cond.static yX2_isCard, Cond.initialized RX2, Cond.code yX2_isCard cX2_isCard 1 (some .boolean), Cond.methodLink RX2 78 yX2_reasonAgainst, Cond.instanceMethod yX2_reasonAgainst, Cond.selects RX2 yX2_reasonAgainst yX2_reasonAgainst, Cond.code yX2_reasonAgainst cX2_reasonAgainst 4 (some .int), Cond.fieldLink RX2 33 "ArchivistTricks" "mover" "I", Cond.fieldLink RX2 30 "ArchivistTricks" "ledCard" "I", Cond.fieldLink RX2 23 "ArchivistTricks" "drawn" "I", Cond.fieldLink RX2 27 "ArchivistTricks" "trumpProvenance" "I", Cond.methodLink RX2 154 yX2_moversHand, Cond.instanceMethod yX2_moversHand, Cond.selects RX2 yX2_moversHand yX2_moversHand, Cond.code yX2_moversHand cX2_moversHand 1 (some .long), Cond.fieldLink RX2 91 "ArchivistTricks$Archivist" "hand" "J", Cond.methodLink RX2 87 yX2_archivist, Cond.instanceMethod yX2_archivist, Cond.selects RX2 yX2_archivist yX2_archivist, Cond.code yX2_archivist cX2_archivist 2 (some (.object "ArchivistTricks$Archivist")), Cond.fieldLink RX2 16 "ArchivistTricks" "first" "LArchivistTricks$Archivist;"]
def wsX2_whyNot_r2 : List Cond := [Cond.fieldLink RX2 20 "ArchivistTricks" "second" "LArchivistTricks$Archivist;", Cond.methodLink RX2 124 yX2_has, Cond.static yX2_has, Cond.code yX2_has cX2_has 3 (some .boolean), Cond.methodLink RX2 188 yX2_reasonAgainstLeading, Cond.static yX2_reasonAgainstLeading, Cond.code yX2_reasonAgainstLeading cX2_reasonAgainstLeading 3 (some .int), Cond.constantLong RX2 220 (1099511627775), Cond.methodLink RX2 64 yX2_isMildew, Cond.static yX2_isMildew, Cond.code yX2_isMildew cX2_isMildew 1 (some .boolean), Cond.methodLink RX2 192 yX2_reasonAgainstReplying, Cond.static yX2_reasonAgainstReplying, Cond.code yX2_reasonAgainstReplying cX2_reasonAgainstReplying 9 (some .int), Cond.methodLink RX2 222 yX2_allOf, Cond.static yX2_allOf, Cond.code yX2_allOf cX2_allOf 1 (some .long), Cond.constantLong RX2 218 (1023)]
def wsX2_whyNot : List Cond := .code yX2_whyNot cX2_whyNot 2 (some .int) :: ((wsX2_whyNot_r1 ++ wsX2_whyNot_r2) ++ wsX20 ++ wsX00 ++ (vx_atS RX2 75 "java/lang/IllegalArgumentException" ["java/lang/RuntimeException", "java/lang/Exception"]).filter goodWord)
def wsX2_isPlaying : List Cond := .code yX2_isPlaying cX2_isPlaying 1 (some .boolean) :: ([.fieldLink RX2 33 "ArchivistTricks" "mover" "I"] ++ wsX20)
def wsX2_turn : List Cond := .code yX2_turn cX2_turn 1 (some .int) :: ([.fieldLink RX2 33 "ArchivistTricks" "mover" "I"] ++ wsX20)
def wsX2_led : List Cond := .code yX2_led cX2_led 1 (some .int) :: ([.fieldLink RX2 30 "ArchivistTricks" "ledCard" "I"] ++ wsX20)
def wsX2_trumps : List Cond := .code yX2_trumps cX2_trumps 1 (some .int) :: ([.fieldLink RX2 27 "ArchivistTricks" "trumpProvenance" "I"] ++ wsX20)
def wsX2_pile : List Cond := .code yX2_pile cX2_pile 1 (some .int) :: ([.fieldLink RX2 23 "ArchivistTricks" "drawn" "I"] ++ wsX20)
def wsX2_isArchivist : List Cond := .code yX2_isArchivist cX2_isArchivist 1 (some .boolean) :: ([])
def wsJ13_bitCount_95d88 : List Cond := .code yJ13_bitCount_95d88 cJ13_bitCount_95d88 2 (some .int) :: ([.constantLong RJ13 314 (6148914691236517205), .constantLong RJ13 316 (3689348814741910323), .constantLong RJ13 318 (1085102592571150095)])
def wsX2_cards : List Cond := .code yX2_cards cX2_cards 2 (some .int) :: ([.classLink RX2 113 "java/lang/IndexOutOfBoundsException", .initialized "java/lang/IndexOutOfBoundsException", .fieldLink RX2 91 "ArchivistTricks$Archivist" "hand" "J", .methodLink RX2 110 yX2_isArchivist, .static yX2_isArchivist, .initialized RX2, .code yX2_isArchivist cX2_isArchivist 1 (some .boolean), .methodLink RX2 87 yX2_archivist, .instanceMethod yX2_archivist, .selects RX2 yX2_archivist yX2_archivist, .code yX2_archivist cX2_archivist 2 (some (.object "ArchivistTricks$Archivist")), .fieldLink RX2 16 "ArchivistTricks" "first" "LArchivistTricks$Archivist;", .fieldLink RX2 20 "ArchivistTricks" "second" "LArchivistTricks$Archivist;", .methodLink RX2 118 yJ13_bitCount_95d88, .static yJ13_bitCount_95d88, .initialized RJ13, .code yJ13_bitCount_95d88 cJ13_bitCount_95d88 2 (some .int), .constantLong RJ13 314 (6148914691236517205), .constantLong RJ13 316 (3689348814741910323), .constantLong RJ13 318 (1085102592571150095)] ++ wsX00 ++ wsX20 ++ (vx_atS RX2 117 "java/lang/IndexOutOfBoundsException" ["java/lang/RuntimeException", "java/lang/Exception"]).filter goodWord)
def wsX2_cardAt : List Cond := .code yX2_cardAt cX2_cardAt 7 (some .int) :: ([.classLink RX2 113 "java/lang/IndexOutOfBoundsException", .initialized "java/lang/IndexOutOfBoundsException", .fieldLink RX2 91 "ArchivistTricks$Archivist" "hand" "J", .methodLink RX2 110 yX2_isArchivist, .static yX2_isArchivist, .initialized RX2, .code yX2_isArchivist cX2_isArchivist 1 (some .boolean), .methodLink RX2 87 yX2_archivist, .instanceMethod yX2_archivist, .selects RX2 yX2_archivist yX2_archivist, .code yX2_archivist cX2_archivist 2 (some (.object "ArchivistTricks$Archivist")), .fieldLink RX2 16 "ArchivistTricks" "first" "LArchivistTricks$Archivist;", .fieldLink RX2 20 "ArchivistTricks" "second" "LArchivistTricks$Archivist;", .methodLink RX2 124 yX2_has, .static yX2_has, .code yX2_has cX2_has 3 (some .boolean)] ++ wsX00 ++ wsX20 ++ (vx_atS RX2 117 "java/lang/IndexOutOfBoundsException" ["java/lang/RuntimeException", "java/lang/Exception"]).filter goodWord)
def wsX2_placeOf : List Cond := .code yX2_placeOf cX2_placeOf 2 (some .int) :: ([.classLink RX2 71 "java/lang/IllegalArgumentException", .initialized "java/lang/IllegalArgumentException", .fieldLink RX2 27 "ArchivistTricks" "trumpProvenance" "I", .fieldLink RX2 16 "ArchivistTricks" "first" "LArchivistTricks$Archivist;", .fieldLink RX2 91 "ArchivistTricks$Archivist" "hand" "J", .fieldLink RX2 20 "ArchivistTricks" "second" "LArchivistTricks$Archivist;", .fieldLink RX2 130 "ArchivistTricks$Archivist" "taken" "J", .fieldLink RX2 30 "ArchivistTricks" "ledCard" "I", .methodLink RX2 68 yX2_isCard, .static yX2_isCard, .initialized RX2, .code yX2_isCard cX2_isCard 1 (some .boolean), .methodLink RX2 124 yX2_has, .static yX2_has, .code yX2_has cX2_has 3 (some .boolean)] ++ wsX20 ++ wsX00 ++ (vx_atS RX2 75 "java/lang/IllegalArgumentException" ["java/lang/RuntimeException", "java/lang/Exception"]).filter goodWord)
def wsX2_points : List Cond := .code yX2_points cX2_points 2 (some .int) :: ([.classLink RX2 113 "java/lang/IndexOutOfBoundsException", .initialized "java/lang/IndexOutOfBoundsException", .fieldLink RX2 133 "ArchivistTricks$Archivist" "points" "I", .methodLink RX2 110 yX2_isArchivist, .static yX2_isArchivist, .initialized RX2, .code yX2_isArchivist cX2_isArchivist 1 (some .boolean), .methodLink RX2 87 yX2_archivist, .instanceMethod yX2_archivist, .selects RX2 yX2_archivist yX2_archivist, .code yX2_archivist cX2_archivist 2 (some (.object "ArchivistTricks$Archivist")), .fieldLink RX2 16 "ArchivistTricks" "first" "LArchivistTricks$Archivist;", .fieldLink RX2 20 "ArchivistTricks" "second" "LArchivistTricks$Archivist;"] ++ wsX00 ++ wsX20 ++ (vx_atS RX2 117 "java/lang/IndexOutOfBoundsException" ["java/lang/RuntimeException", "java/lang/Exception"]).filter goodWord)
def wsX2_tricks : List Cond := .code yX2_tricks cX2_tricks 2 (some .int) :: ([.classLink RX2 113 "java/lang/IndexOutOfBoundsException", .initialized "java/lang/IndexOutOfBoundsException", .fieldLink RX2 136 "ArchivistTricks$Archivist" "tricks" "I", .methodLink RX2 110 yX2_isArchivist, .static yX2_isArchivist, .initialized RX2, .code yX2_isArchivist cX2_isArchivist 1 (some .boolean), .methodLink RX2 87 yX2_archivist, .instanceMethod yX2_archivist, .selects RX2 yX2_archivist yX2_archivist, .code yX2_archivist cX2_archivist 2 (some (.object "ArchivistTricks$Archivist")), .fieldLink RX2 16 "ArchivistTricks" "first" "LArchivistTricks$Archivist;", .fieldLink RX2 20 "ArchivistTricks" "second" "LArchivistTricks$Archivist;"] ++ wsX00 ++ wsX20 ++ (vx_atS RX2 117 "java/lang/IndexOutOfBoundsException" ["java/lang/RuntimeException", "java/lang/Exception"]).filter goodWord)
def wsX2_gloves : List Cond := .code yX2_gloves cX2_gloves 2 (some .int) :: ([.classLink RX2 113 "java/lang/IndexOutOfBoundsException", .initialized "java/lang/IndexOutOfBoundsException", .fieldLink RX2 105 "ArchivistTricks$Archivist" "gloves" "I", .methodLink RX2 110 yX2_isArchivist, .static yX2_isArchivist, .initialized RX2, .code yX2_isArchivist cX2_isArchivist 1 (some .boolean), .methodLink RX2 87 yX2_archivist, .instanceMethod yX2_archivist, .selects RX2 yX2_archivist yX2_archivist, .code yX2_archivist cX2_archivist 2 (some (.object "ArchivistTricks$Archivist")), .fieldLink RX2 16 "ArchivistTricks" "first" "LArchivistTricks$Archivist;", .fieldLink RX2 20 "ArchivistTricks" "second" "LArchivistTricks$Archivist;"] ++ wsX00 ++ wsX20 ++ (vx_atS RX2 117 "java/lang/IndexOutOfBoundsException" ["java/lang/RuntimeException", "java/lang/Exception"]).filter goodWord)
def wsX2_choices_r1 : List Cond := [Cond.methodLink RX2 78 yX2_reasonAgainst, Cond.instanceMethod yX2_reasonAgainst, Cond.selects RX2 yX2_reasonAgainst yX2_reasonAgainst, Cond.initialized RX2, Cond.code yX2_reasonAgainst cX2_reasonAgainst 4 (some .int), Cond.fieldLink RX2 33 "ArchivistTricks" "mover" "I", Cond.fieldLink RX2 30 "ArchivistTricks" "ledCard" "I", Cond.fieldLink RX2 23 "ArchivistTricks" "drawn" "I", Cond.fieldLink RX2 27 "ArchivistTricks" "trumpProvenance" "I", Cond.methodLink RX2 154 yX2_moversHand, Cond.instanceMethod yX2_moversHand, Cond.selects RX2 yX2_moversHand yX2_moversHand, Cond.code yX2_moversHand cX2_moversHand 1 (some .long), Cond.fieldLink RX2 91 "ArchivistTricks$Archivist" "hand" "J", Cond.methodLink RX2 87 yX2_archivist, Cond.instanceMethod yX2_archivist, Cond.selects RX2 yX2_archivist yX2_archivist, Cond.code yX2_archivist cX2_archivist 2 (some (.object "ArchivistTricks$Archivist")), Cond.fieldLink RX2 16 "ArchivistTricks" "first" "LArchivistTricks$Archivist;", Cond.fieldLink RX2 20 "ArchivistTricks" "second" "LArchivistTricks$Archivist;", Cond.methodLink RX2 124 yX2_has, Cond.static yX2_has, Cond.code yX2_has cX2_has 3 (some .boolean), Cond.methodLink RX2 188 yX2_reasonAgainstLeading]
def wsX2_choices_r2 : List Cond := [Cond.static yX2_reasonAgainstLeading, Cond.code yX2_reasonAgainstLeading cX2_reasonAgainstLeading 3 (some .int), Cond.constantLong RX2 220 (1099511627775), Cond.methodLink RX2 64 yX2_isMildew, Cond.static yX2_isMildew, Cond.code yX2_isMildew cX2_isMildew 1 (some .boolean), Cond.methodLink RX2 192 yX2_reasonAgainstReplying, Cond.static yX2_reasonAgainstReplying, Cond.code yX2_reasonAgainstReplying cX2_reasonAgainstReplying 9 (some .int), Cond.methodLink RX2 222 yX2_allOf, Cond.static yX2_allOf, Cond.code yX2_allOf cX2_allOf 1 (some .long), Cond.constantLong RX2 218 (1023)]
def wsX2_choices : List Cond := .code yX2_choices cX2_choices 3 (some .int) :: ((wsX2_choices_r1 ++ wsX2_choices_r2) ++ wsX20 ++ wsX00)
def wsX2_wouldTake : List Cond := .code yX2_wouldTake cX2_wouldTake 2 (some .int) :: ([.classLink RX2 71 "java/lang/IllegalArgumentException", .initialized "java/lang/IllegalArgumentException", .classLink RX2 82 "java/lang/IllegalStateException", .initialized "java/lang/IllegalStateException", .fieldLink RX2 30 "ArchivistTricks" "ledCard" "I", .methodLink RX2 68 yX2_isCard, .static yX2_isCard, .initialized RX2, .code yX2_isCard cX2_isCard 1 (some .boolean), .methodLink RX2 141 yX2_takerBy, .instanceMethod yX2_takerBy, .selects RX2 yX2_takerBy yX2_takerBy, .code yX2_takerBy cX2_takerBy 2 (some .int), .fieldLink RX2 27 "ArchivistTricks" "trumpProvenance" "I", .fieldLink RX2 33 "ArchivistTricks" "mover" "I", .methodLink RX2 196 yX2_beats, .static yX2_beats, .code yX2_beats cX2_beats 3 (some .boolean), .methodLink RX2 64 yX2_isMildew, .static yX2_isMildew, .code yX2_isMildew cX2_isMildew 1 (some .boolean)] ++ wsX20 ++ (vx_atS RX2 75 "java/lang/IllegalArgumentException" ["java/lang/RuntimeException", "java/lang/Exception"]).filter goodWord ++ (vx_atS RX2 86 "java/lang/IllegalStateException" ["java/lang/RuntimeException", "java/lang/Exception"]).filter goodWord)
def wsX2_wonByFirst : List Cond := .code yX2_wonByFirst cX2_wonByFirst 1 (some .int) :: ([.fieldLink RX2 36 "ArchivistTricks" "firstWins" "I"] ++ wsX20)
def wsX2_wonBySecond : List Cond := .code yX2_wonBySecond cX2_wonBySecond 1 (some .int) :: ([.fieldLink RX2 39 "ArchivistTricks" "secondWins" "I"] ++ wsX20)
def wsL_drawn : List Cond := .code yL_drawn cL_drawn 4 (some .int) :: ([.constant RL 7 (42403)])
def wsL_worth : List Cond := .code yL_worth cL_worth 1 (some .int) :: ([])
def wsL_isLaidRight_r1 : List Cond := [Cond.methodLink RL 8 yX2_placeOf, Cond.instanceMethod yX2_placeOf, Cond.selects RX2 yX2_placeOf yX2_placeOf, Cond.initialized RX2, Cond.code yX2_placeOf cX2_placeOf 2 (some .int), Cond.classLink RX2 71 "java/lang/IllegalArgumentException", Cond.initialized "java/lang/IllegalArgumentException", Cond.fieldLink RX2 27 "ArchivistTricks" "trumpProvenance" "I", Cond.fieldLink RX2 16 "ArchivistTricks" "first" "LArchivistTricks$Archivist;", Cond.fieldLink RX2 91 "ArchivistTricks$Archivist" "hand" "J", Cond.fieldLink RX2 20 "ArchivistTricks" "second" "LArchivistTricks$Archivist;", Cond.fieldLink RX2 130 "ArchivistTricks$Archivist" "taken" "J", Cond.fieldLink RX2 30 "ArchivistTricks" "ledCard" "I", Cond.methodLink RX2 68 yX2_isCard, Cond.static yX2_isCard, Cond.code yX2_isCard cX2_isCard 1 (some .boolean), Cond.methodLink RX2 124 yX2_has, Cond.static yX2_has, Cond.code yX2_has cX2_has 3 (some .boolean), Cond.methodLink RL 14 yL_worth, Cond.static yL_worth, Cond.initialized RL, Cond.code yL_worth cL_worth 1 (some .int), Cond.methodLink RL 19 yX2_led]
def wsL_isLaidRight_r2 : List Cond := [Cond.instanceMethod yX2_led, Cond.selects RX2 yX2_led yX2_led, Cond.code yX2_led cX2_led 1 (some .int), Cond.methodLink RL 23 yX2_cards, Cond.instanceMethod yX2_cards, Cond.selects RX2 yX2_cards yX2_cards, Cond.code yX2_cards cX2_cards 2 (some .int), Cond.classLink RX2 113 "java/lang/IndexOutOfBoundsException", Cond.initialized "java/lang/IndexOutOfBoundsException", Cond.methodLink RX2 110 yX2_isArchivist, Cond.static yX2_isArchivist, Cond.code yX2_isArchivist cX2_isArchivist 1 (some .boolean), Cond.methodLink RX2 87 yX2_archivist, Cond.instanceMethod yX2_archivist, Cond.selects RX2 yX2_archivist yX2_archivist, Cond.code yX2_archivist cX2_archivist 2 (some (.object "ArchivistTricks$Archivist")), Cond.methodLink RX2 118 yJ13_bitCount_95d88, Cond.static yJ13_bitCount_95d88, Cond.initialized RJ13, Cond.code yJ13_bitCount_95d88 cJ13_bitCount_95d88 2 (some .int), Cond.constantLong RJ13 314 (6148914691236517205), Cond.constantLong RJ13 316 (3689348814741910323), Cond.constantLong RJ13 318 (1085102592571150095), Cond.methodLink RL 26 yX2_pile]
def wsL_isLaidRight_r3 : List Cond := [Cond.instanceMethod yX2_pile, Cond.selects RX2 yX2_pile yX2_pile, Cond.code yX2_pile cX2_pile 1 (some .int), Cond.fieldLink RX2 23 "ArchivistTricks" "drawn" "I", Cond.methodLink RL 29 yX2_tricks, Cond.instanceMethod yX2_tricks, Cond.selects RX2 yX2_tricks yX2_tricks, Cond.code yX2_tricks cX2_tricks 2 (some .int), Cond.fieldLink RX2 136 "ArchivistTricks$Archivist" "tricks" "I", Cond.methodLink RL 32 yX2_points, Cond.instanceMethod yX2_points, Cond.selects RX2 yX2_points yX2_points, Cond.code yX2_points cX2_points 2 (some .int), Cond.fieldLink RX2 133 "ArchivistTricks$Archivist" "points" "I", Cond.methodLink RL 35 yX2_cardAt, Cond.instanceMethod yX2_cardAt, Cond.selects RX2 yX2_cardAt yX2_cardAt, Cond.code yX2_cardAt cX2_cardAt 7 (some .int), Cond.methodLink RL 39 yX2_turn, Cond.instanceMethod yX2_turn, Cond.selects RX2 yX2_turn yX2_turn, Cond.code yX2_turn cX2_turn 1 (some .int), Cond.fieldLink RX2 33 "ArchivistTricks" "mover" "I"]
def wsL_isLaidRight : List Cond := .code yL_isLaidRight cL_isLaidRight 11 (some .boolean) :: ((wsL_isLaidRight_r1 ++ (wsL_isLaidRight_r2 ++ wsL_isLaidRight_r3)) ++ wsX20 ++ wsX00 ++ (vx_atS RX2 75 "java/lang/IllegalArgumentException" ["java/lang/RuntimeException", "java/lang/Exception"]).filter goodWord ++ (vx_atS RX2 117 "java/lang/IndexOutOfBoundsException" ["java/lang/RuntimeException", "java/lang/Exception"]).filter goodWord)
def wsL_isFree_r1 : List Cond := [Cond.methodLink RL 39 yX2_turn, Cond.instanceMethod yX2_turn, Cond.selects RX2 yX2_turn yX2_turn, Cond.initialized RX2, Cond.code yX2_turn cX2_turn 1 (some .int), Cond.fieldLink RX2 33 "ArchivistTricks" "mover" "I", Cond.methodLink RL 23 yX2_cards, Cond.instanceMethod yX2_cards, Cond.selects RX2 yX2_cards yX2_cards, Cond.code yX2_cards cX2_cards 2 (some .int), Cond.classLink RX2 113 "java/lang/IndexOutOfBoundsException", Cond.initialized "java/lang/IndexOutOfBoundsException", Cond.fieldLink RX2 91 "ArchivistTricks$Archivist" "hand" "J", Cond.methodLink RX2 110 yX2_isArchivist, Cond.static yX2_isArchivist, Cond.code yX2_isArchivist cX2_isArchivist 1 (some .boolean), Cond.methodLink RX2 87 yX2_archivist, Cond.instanceMethod yX2_archivist, Cond.selects RX2 yX2_archivist yX2_archivist, Cond.code yX2_archivist cX2_archivist 2 (some (.object "ArchivistTricks$Archivist")), Cond.fieldLink RX2 16 "ArchivistTricks" "first" "LArchivistTricks$Archivist;", Cond.fieldLink RX2 20 "ArchivistTricks" "second" "LArchivistTricks$Archivist;", Cond.methodLink RX2 118 yJ13_bitCount_95d88, Cond.static yJ13_bitCount_95d88]
def wsL_isFree_r2 : List Cond := [Cond.initialized RJ13, Cond.code yJ13_bitCount_95d88 cJ13_bitCount_95d88 2 (some .int), Cond.constantLong RJ13 314 (6148914691236517205), Cond.constantLong RJ13 316 (3689348814741910323), Cond.constantLong RJ13 318 (1085102592571150095), Cond.methodLink RL 35 yX2_cardAt, Cond.instanceMethod yX2_cardAt, Cond.selects RX2 yX2_cardAt yX2_cardAt, Cond.code yX2_cardAt cX2_cardAt 7 (some .int), Cond.methodLink RX2 124 yX2_has, Cond.static yX2_has, Cond.code yX2_has cX2_has 3 (some .boolean), Cond.methodLink RL 42 yX2_whyNot, Cond.instanceMethod yX2_whyNot, Cond.selects RX2 yX2_whyNot yX2_whyNot, Cond.code yX2_whyNot cX2_whyNot 2 (some .int), Cond.classLink RX2 71 "java/lang/IllegalArgumentException", Cond.initialized "java/lang/IllegalArgumentException", Cond.methodLink RX2 68 yX2_isCard, Cond.static yX2_isCard, Cond.code yX2_isCard cX2_isCard 1 (some .boolean), Cond.methodLink RX2 78 yX2_reasonAgainst, Cond.instanceMethod yX2_reasonAgainst, Cond.selects RX2 yX2_reasonAgainst yX2_reasonAgainst]
def wsL_isFree_r3 : List Cond := [Cond.code yX2_reasonAgainst cX2_reasonAgainst 4 (some .int), Cond.fieldLink RX2 30 "ArchivistTricks" "ledCard" "I", Cond.fieldLink RX2 23 "ArchivistTricks" "drawn" "I", Cond.fieldLink RX2 27 "ArchivistTricks" "trumpProvenance" "I", Cond.methodLink RX2 154 yX2_moversHand, Cond.instanceMethod yX2_moversHand, Cond.selects RX2 yX2_moversHand yX2_moversHand, Cond.code yX2_moversHand cX2_moversHand 1 (some .long), Cond.methodLink RX2 188 yX2_reasonAgainstLeading, Cond.static yX2_reasonAgainstLeading, Cond.code yX2_reasonAgainstLeading cX2_reasonAgainstLeading 3 (some .int), Cond.constantLong RX2 220 (1099511627775), Cond.methodLink RX2 64 yX2_isMildew, Cond.static yX2_isMildew, Cond.code yX2_isMildew cX2_isMildew 1 (some .boolean), Cond.methodLink RX2 192 yX2_reasonAgainstReplying, Cond.static yX2_reasonAgainstReplying, Cond.code yX2_reasonAgainstReplying cX2_reasonAgainstReplying 9 (some .int), Cond.methodLink RX2 222 yX2_allOf, Cond.static yX2_allOf, Cond.code yX2_allOf cX2_allOf 1 (some .long), Cond.constantLong RX2 218 (1023), Cond.methodLink RL 26 yX2_pile, Cond.instanceMethod yX2_pile]
def wsL_isFree_r4 : List Cond := [Cond.selects RX2 yX2_pile yX2_pile, Cond.code yX2_pile cX2_pile 1 (some .int), Cond.methodLink RL 19 yX2_led, Cond.instanceMethod yX2_led, Cond.selects RX2 yX2_led yX2_led, Cond.code yX2_led cX2_led 1 (some .int), Cond.methodLink RL 45 yX2_choices, Cond.instanceMethod yX2_choices, Cond.selects RX2 yX2_choices yX2_choices, Cond.code yX2_choices cX2_choices 3 (some .int)]
def wsL_isFree : List Cond := .code yL_isFree cL_isFree 7 (some .boolean) :: ((wsL_isFree_r1 ++ (wsL_isFree_r2 ++ (wsL_isFree_r3 ++ wsL_isFree_r4))) ++ wsX20 ++ wsX00 ++ (vx_atS RX2 117 "java/lang/IndexOutOfBoundsException" ["java/lang/RuntimeException", "java/lang/Exception"]).filter goodWord ++ (vx_atS RX2 75 "java/lang/IllegalArgumentException" ["java/lang/RuntimeException", "java/lang/Exception"]).filter goodWord)
def wsL_law0_r1 : List Cond := [Cond.classLink RL 9 RX2, Cond.instantiable RX2 11, Cond.initialized RX2, Cond.constant RL 49 (1073741824), Cond.constantLong RL 54 (1048583), Cond.methodLink RL 48 yX2_init, Cond.instanceMethod yX2_init, Cond.code yX2_init cX2_init 1 none, Cond.methodLink RX2 3 objectInit, Cond.instanceMethod objectInit, Cond.code objectInit ⟨#[0xb1]⟩ 1 none, Cond.arrayClass .int, Cond.fieldLink RX2 9 "ArchivistTricks" "row" "[I", Cond.classLink RX2 13 RX0, Cond.instantiable RX0 5, Cond.initialized RX0, Cond.fieldLink RX2 16 "ArchivistTricks" "first" "LArchivistTricks$Archivist;", Cond.fieldLink RX2 20 "ArchivistTricks" "second" "LArchivistTricks$Archivist;", Cond.fieldLink RX2 23 "ArchivistTricks" "drawn" "I", Cond.fieldLink RX2 27 "ArchivistTricks" "trumpProvenance" "I", Cond.fieldLink RX2 30 "ArchivistTricks" "ledCard" "I", Cond.fieldLink RX2 33 "ArchivistTricks" "mover" "I", Cond.fieldLink RX2 36 "ArchivistTricks" "firstWins" "I", Cond.fieldLink RX2 39 "ArchivistTricks" "secondWins" "I"]
def wsL_law0_r2 : List Cond := [Cond.fieldLink RX2 42 "ArchivistTricks" "ending" "LArchivistTricks$Ending;", Cond.fieldLink RX2 46 "ArchivistTricks" "endingBegun" "Z", Cond.instanceMethod yX0_init, Cond.code yX0_init cX0_init 1 none, Cond.methodLink RX0 3 objectInit, Cond.fieldLink RX0 9 "ArchivistTricks$Archivist" "hand" "J", Cond.fieldLink RX0 15 "ArchivistTricks$Archivist" "taken" "J", Cond.fieldLink RX0 18 "ArchivistTricks$Archivist" "points" "I", Cond.fieldLink RX0 22 "ArchivistTricks$Archivist" "tricks" "I", Cond.fieldLink RX0 25 "ArchivistTricks$Archivist" "gloves" "I", Cond.methodLink RL 50 yL_drawn, Cond.static yL_drawn, Cond.initialized RL, Cond.code yL_drawn cL_drawn 4 (some .int), Cond.constant RL 7 (42403), Cond.methodLink RL 56 yX2_deal, Cond.instanceMethod yX2_deal, Cond.selects RX2 yX2_deal yX2_deal, Cond.code yX2_deal cX2_deal 4 (some .int), Cond.methodLink RX2 50 yX2_shuffle, Cond.instanceMethod yX2_shuffle, Cond.selects RX2 yX2_shuffle yX2_shuffle, Cond.code yX2_shuffle cX2_shuffle 6 none, Cond.constantLong RX2 174 (6364136223846793005)]
def wsL_law0_r3 : List Cond := [Cond.constantLong RX2 176 (1442695040888963407), Cond.methodLink RX2 178 yX2_exchange, Cond.instanceMethod yX2_exchange, Cond.selects RX2 yX2_exchange yX2_exchange, Cond.code yX2_exchange cX2_exchange 4 none, Cond.methodLink RX2 54 yX2_putTurnedUpLast, Cond.instanceMethod yX2_putTurnedUpLast, Cond.selects RX2 yX2_putTurnedUpLast yX2_putTurnedUpLast, Cond.code yX2_putTurnedUpLast cX2_putTurnedUpLast 2 none, Cond.methodLink RX2 182 arraycopyName, Cond.native arraycopyName, Cond.static arraycopyName, Cond.initialized "java/lang/System", Cond.methodLink RX2 57 yX2_handFrom, Cond.instanceMethod yX2_handFrom, Cond.selects RX2 yX2_handFrom yX2_handFrom, Cond.code yX2_handFrom cX2_handFrom 5 (some .long), Cond.methodLink RX2 95 yX2_bit, Cond.static yX2_bit, Cond.code yX2_bit cX2_bit 1 (some .long), Cond.methodLink RX2 61 yX0_begin, Cond.instanceMethod yX0_begin, Cond.selects RX0 yX0_begin yX0_begin, Cond.code yX0_begin cX0_begin 3 none]
def wsL_law0_r4 : List Cond := [Cond.methodLink RX2 64 yX2_isMildew, Cond.static yX2_isMildew, Cond.code yX2_isMildew cX2_isMildew 1 (some .boolean), Cond.methodLink RL 60 yX2_trumps, Cond.instanceMethod yX2_trumps, Cond.selects RX2 yX2_trumps yX2_trumps, Cond.code yX2_trumps cX2_trumps 1 (some .int), Cond.methodLink RL 26 yX2_pile, Cond.instanceMethod yX2_pile, Cond.selects RX2 yX2_pile yX2_pile, Cond.code yX2_pile cX2_pile 1 (some .int), Cond.methodLink RL 39 yX2_turn, Cond.instanceMethod yX2_turn, Cond.selects RX2 yX2_turn yX2_turn, Cond.code yX2_turn cX2_turn 1 (some .int), Cond.methodLink RL 63 yL_isLaidRight, Cond.static yL_isLaidRight, Cond.code yL_isLaidRight cL_isLaidRight 11 (some .boolean), Cond.methodLink RL 8 yX2_placeOf, Cond.instanceMethod yX2_placeOf, Cond.selects RX2 yX2_placeOf yX2_placeOf, Cond.code yX2_placeOf cX2_placeOf 2 (some .int), Cond.classLink RX2 71 "java/lang/IllegalArgumentException", Cond.initialized "java/lang/IllegalArgumentException"]
def wsL_law0_r5 : List Cond := [Cond.fieldLink RX2 91 "ArchivistTricks$Archivist" "hand" "J", Cond.fieldLink RX2 130 "ArchivistTricks$Archivist" "taken" "J", Cond.methodLink RX2 68 yX2_isCard, Cond.static yX2_isCard, Cond.code yX2_isCard cX2_isCard 1 (some .boolean), Cond.methodLink RX2 124 yX2_has, Cond.static yX2_has, Cond.code yX2_has cX2_has 3 (some .boolean), Cond.methodLink RL 14 yL_worth, Cond.static yL_worth, Cond.code yL_worth cL_worth 1 (some .int), Cond.methodLink RL 19 yX2_led, Cond.instanceMethod yX2_led, Cond.selects RX2 yX2_led yX2_led, Cond.code yX2_led cX2_led 1 (some .int), Cond.methodLink RL 23 yX2_cards, Cond.instanceMethod yX2_cards, Cond.selects RX2 yX2_cards yX2_cards, Cond.code yX2_cards cX2_cards 2 (some .int), Cond.classLink RX2 113 "java/lang/IndexOutOfBoundsException", Cond.initialized "java/lang/IndexOutOfBoundsException", Cond.methodLink RX2 110 yX2_isArchivist, Cond.static yX2_isArchivist, Cond.code yX2_isArchivist cX2_isArchivist 1 (some .boolean)]
def wsL_law0_r6 : List Cond := [Cond.methodLink RX2 87 yX2_archivist, Cond.instanceMethod yX2_archivist, Cond.selects RX2 yX2_archivist yX2_archivist, Cond.code yX2_archivist cX2_archivist 2 (some (.object "ArchivistTricks$Archivist")), Cond.methodLink RX2 118 yJ13_bitCount_95d88, Cond.static yJ13_bitCount_95d88, Cond.initialized RJ13, Cond.code yJ13_bitCount_95d88 cJ13_bitCount_95d88 2 (some .int), Cond.constantLong RJ13 314 (6148914691236517205), Cond.constantLong RJ13 316 (3689348814741910323), Cond.constantLong RJ13 318 (1085102592571150095), Cond.methodLink RL 29 yX2_tricks, Cond.instanceMethod yX2_tricks, Cond.selects RX2 yX2_tricks yX2_tricks, Cond.code yX2_tricks cX2_tricks 2 (some .int), Cond.fieldLink RX2 136 "ArchivistTricks$Archivist" "tricks" "I", Cond.methodLink RL 32 yX2_points, Cond.instanceMethod yX2_points, Cond.selects RX2 yX2_points yX2_points, Cond.code yX2_points cX2_points 2 (some .int), Cond.fieldLink RX2 133 "ArchivistTricks$Archivist" "points" "I", Cond.methodLink RL 35 yX2_cardAt, Cond.instanceMethod yX2_cardAt, Cond.selects RX2 yX2_cardAt yX2_cardAt]
def wsL_law0_r7 : List Cond := [Cond.code yX2_cardAt cX2_cardAt 7 (some .int), Cond.methodLink RL 67 yX2_isPlaying, Cond.instanceMethod yX2_isPlaying, Cond.selects RX2 yX2_isPlaying yX2_isPlaying, Cond.code yX2_isPlaying cX2_isPlaying 1 (some .boolean), Cond.methodLink RL 71 yX2_gloves, Cond.instanceMethod yX2_gloves, Cond.selects RX2 yX2_gloves yX2_gloves, Cond.code yX2_gloves cX2_gloves 2 (some .int), Cond.fieldLink RX2 105 "ArchivistTricks$Archivist" "gloves" "I", Cond.methodLink RL 74 yX2_putOnGloves, Cond.instanceMethod yX2_putOnGloves, Cond.selects RX2 yX2_putOnGloves yX2_putOnGloves, Cond.code yX2_putOnGloves cX2_putOnGloves 2 (some .int), Cond.classLink RX2 82 "java/lang/IllegalStateException", Cond.initialized "java/lang/IllegalStateException", Cond.methodLink RL 45 yX2_choices, Cond.instanceMethod yX2_choices, Cond.selects RX2 yX2_choices yX2_choices, Cond.code yX2_choices cX2_choices 3 (some .int), Cond.methodLink RX2 78 yX2_reasonAgainst, Cond.instanceMethod yX2_reasonAgainst, Cond.selects RX2 yX2_reasonAgainst yX2_reasonAgainst, Cond.code yX2_reasonAgainst cX2_reasonAgainst 4 (some .int)]
def wsL_law0_r8 : List Cond := [Cond.methodLink RX2 154 yX2_moversHand, Cond.instanceMethod yX2_moversHand, Cond.selects RX2 yX2_moversHand yX2_moversHand, Cond.code yX2_moversHand cX2_moversHand 1 (some .long), Cond.methodLink RX2 188 yX2_reasonAgainstLeading, Cond.static yX2_reasonAgainstLeading, Cond.code yX2_reasonAgainstLeading cX2_reasonAgainstLeading 3 (some .int), Cond.constantLong RX2 220 (1099511627775), Cond.methodLink RX2 192 yX2_reasonAgainstReplying, Cond.static yX2_reasonAgainstReplying, Cond.code yX2_reasonAgainstReplying cX2_reasonAgainstReplying 9 (some .int), Cond.methodLink RX2 222 yX2_allOf, Cond.static yX2_allOf, Cond.code yX2_allOf cX2_allOf 1 (some .long), Cond.constantLong RX2 218 (1023), Cond.methodLink RL 42 yX2_whyNot, Cond.instanceMethod yX2_whyNot, Cond.selects RX2 yX2_whyNot yX2_whyNot, Cond.code yX2_whyNot cX2_whyNot 2 (some .int), Cond.methodLink RL 77 yL_isFree, Cond.static yL_isFree, Cond.code yL_isFree cL_isFree 7 (some .boolean), Cond.methodLink RL 81 yX2_wouldTake, Cond.instanceMethod yX2_wouldTake]
def wsL_law0_r9 : List Cond := [Cond.selects RX2 yX2_wouldTake yX2_wouldTake, Cond.code yX2_wouldTake cX2_wouldTake 2 (some .int), Cond.methodLink RX2 141 yX2_takerBy, Cond.instanceMethod yX2_takerBy, Cond.selects RX2 yX2_takerBy yX2_takerBy, Cond.code yX2_takerBy cX2_takerBy 2 (some .int), Cond.methodLink RX2 196 yX2_beats, Cond.static yX2_beats, Cond.code yX2_beats cX2_beats 3 (some .boolean), Cond.methodLink RL 84 yX2_play, Cond.instanceMethod yX2_play, Cond.selects RX2 yX2_play yX2_play, Cond.code yX2_play cX2_play 3 (some .int), Cond.constantLong RX2 98 (-1), Cond.methodLink RX2 100 yX2_finishTrick, Cond.instanceMethod yX2_finishTrick, Cond.selects RX2 yX2_finishTrick yX2_finishTrick, Cond.code yX2_finishTrick cX2_finishTrick 5 (some .int), Cond.methodLink RX2 200 yX2_worth, Cond.static yX2_worth, Cond.code yX2_worth cX2_worth 2 (some .int), Cond.methodLink RX2 204 yX0_loseWornGloves, Cond.instanceMethod yX0_loseWornGloves, Cond.selects RX0 yX0_loseWornGloves yX0_loseWornGloves]
def wsL_law0_r10 : List Cond := [Cond.code yX0_loseWornGloves cX0_loseWornGloves 1 none, Cond.methodLink RX2 207 yX2_drawFor, Cond.instanceMethod yX2_drawFor, Cond.selects RX2 yX2_drawFor yX2_drawFor, Cond.code yX2_drawFor cX2_drawFor 2 none, Cond.methodLink RX2 211 yX2_endGame, Cond.instanceMethod yX2_endGame, Cond.selects RX2 yX2_endGame yX2_endGame, Cond.code yX2_endGame cX2_endGame 1 none, Cond.methodLink RL 87 yX2_wonByFirst, Cond.instanceMethod yX2_wonByFirst, Cond.selects RX2 yX2_wonByFirst yX2_wonByFirst, Cond.code yX2_wonByFirst cX2_wonByFirst 1 (some .int), Cond.methodLink RL 90 yX2_wonBySecond, Cond.instanceMethod yX2_wonBySecond, Cond.selects RX2 yX2_wonBySecond yX2_wonBySecond, Cond.code yX2_wonBySecond cX2_wonBySecond 1 (some .int)]
def wsL_law0 : List Cond := (wsL_law0_r1 ++ (wsL_law0_r2 ++ (wsL_law0_r3 ++ (wsL_law0_r4 ++ (wsL_law0_r5 ++ (wsL_law0_r6 ++ (wsL_law0_r7 ++ (wsL_law0_r8 ++ (wsL_law0_r9 ++ wsL_law0_r10))))))))) ++ wsX20 ++ wsX00 ++ ([] : List Cond)
def wsL_law : List Cond := wsL_law0 ++ (vx_atS RX2 75 "java/lang/IllegalArgumentException" ["java/lang/RuntimeException", "java/lang/Exception"]).filter goodWord ++ (vx_atS RX2 117 "java/lang/IndexOutOfBoundsException" ["java/lang/RuntimeException", "java/lang/Exception"]).filter goodWord ++ (vx_atS RX2 86 "java/lang/IllegalStateException" ["java/lang/RuntimeException", "java/lang/Exception"]).filter goodWord
abbrev vwCl : List vw_C := [(RX0, TX0, 5), (RX0, TX0, 5), (RX2, TX2, 11)]
end
section
theorem dX0_init_0 : decode cX0_init 0 = .ok (.aload_n 0, 1) := by decide +kernel
theorem dX0_init_1 : decode cX0_init 1 = .ok (.invokespecial 3, 3) := by decide +kernel
theorem dX0_init_4 : decode cX0_init 4 = .ok (.aload_n 0, 1) := by decide +kernel
theorem dX0_init_5 : decode cX0_init 5 = .ok (.lconst 0, 1) := by decide +kernel
theorem dX0_init_6 : decode cX0_init 6 = .ok (.putfield 9, 3) := by decide +kernel
theorem dX0_init_9 : decode cX0_init 9 = .ok (.aload_n 0, 1) := by decide +kernel
theorem dX0_init_10 : decode cX0_init 10 = .ok (.lconst 0, 1) := by decide +kernel
theorem dX0_init_11 : decode cX0_init 11 = .ok (.putfield 15, 3) := by decide +kernel
theorem dX0_init_14 : decode cX0_init 14 = .ok (.aload_n 0, 1) := by decide +kernel
theorem dX0_init_15 : decode cX0_init 15 = .ok (.iconst 0, 1) := by decide +kernel
theorem dX0_init_16 : decode cX0_init 16 = .ok (.putfield 18, 3) := by decide +kernel
theorem dX0_init_19 : decode cX0_init 19 = .ok (.aload_n 0, 1) := by decide +kernel
theorem dX0_init_20 : decode cX0_init 20 = .ok (.iconst 0, 1) := by decide +kernel
theorem dX0_init_21 : decode cX0_init 21 = .ok (.putfield 22, 3) := by decide +kernel
theorem dX0_init_24 : decode cX0_init 24 = .ok (.aload_n 0, 1) := by decide +kernel
theorem dX0_init_25 : decode cX0_init 25 = .ok (.iconst 0, 1) := by decide +kernel
theorem dX0_init_26 : decode cX0_init 26 = .ok (.putfield 25, 3) := by decide +kernel
theorem dX0_init_29 : decode cX0_init 29 = .ok (.return_, 1) := by decide +kernel
theorem dX0_begin_0 : decode cX0_begin 0 = .ok (.aload_n 0, 1) := by decide +kernel
theorem dX0_begin_1 : decode cX0_begin 1 = .ok (.lload_n 1, 1) := by decide +kernel
theorem dX0_begin_2 : decode cX0_begin 2 = .ok (.putfield 9, 3) := by decide +kernel
theorem dX0_begin_5 : decode cX0_begin 5 = .ok (.aload_n 0, 1) := by decide +kernel
theorem dX0_begin_6 : decode cX0_begin 6 = .ok (.lconst 0, 1) := by decide +kernel
theorem dX0_begin_7 : decode cX0_begin 7 = .ok (.putfield 15, 3) := by decide +kernel
theorem dX0_begin_10 : decode cX0_begin 10 = .ok (.aload_n 0, 1) := by decide +kernel
theorem dX0_begin_11 : decode cX0_begin 11 = .ok (.iconst 0, 1) := by decide +kernel
theorem dX0_begin_12 : decode cX0_begin 12 = .ok (.putfield 18, 3) := by decide +kernel
theorem dX0_begin_15 : decode cX0_begin 15 = .ok (.aload_n 0, 1) := by decide +kernel
theorem dX0_begin_16 : decode cX0_begin 16 = .ok (.iconst 0, 1) := by decide +kernel
theorem dX0_begin_17 : decode cX0_begin 17 = .ok (.putfield 22, 3) := by decide +kernel
theorem dX0_begin_20 : decode cX0_begin 20 = .ok (.aload_n 0, 1) := by decide +kernel
theorem dX0_begin_21 : decode cX0_begin 21 = .ok (.iconst 0, 1) := by decide +kernel
theorem dX0_begin_22 : decode cX0_begin 22 = .ok (.putfield 25, 3) := by decide +kernel
theorem dX0_begin_25 : decode cX0_begin 25 = .ok (.return_, 1) := by decide +kernel
theorem dX0_loseWornGloves_0 : decode cX0_loseWornGloves 0 = .ok (.aload_n 0, 1) := by decide +kernel
theorem dX0_loseWornGloves_1 : decode cX0_loseWornGloves 1 = .ok (.getfield 25, 3) := by decide +kernel
theorem dX0_loseWornGloves_4 : decode cX0_loseWornGloves 4 = .ok (.iconst 1, 1) := by decide +kernel
theorem dX0_loseWornGloves_5 : decode cX0_loseWornGloves 5 = .ok (.if_icmp .ne 8, 3) := by decide +kernel
theorem dX0_loseWornGloves_8 : decode cX0_loseWornGloves 8 = .ok (.aload_n 0, 1) := by decide +kernel
theorem dX0_loseWornGloves_9 : decode cX0_loseWornGloves 9 = .ok (.iconst 2, 1) := by decide +kernel
theorem dX0_loseWornGloves_10 : decode cX0_loseWornGloves 10 = .ok (.putfield 25, 3) := by decide +kernel
theorem dX0_loseWornGloves_13 : decode cX0_loseWornGloves 13 = .ok (.return_, 1) := by decide +kernel
set_option maxRecDepth 20000 in
theorem ggX2_init_X0_init : GoodIn wsX2_init wsX0_init := goodIn_r _ [20, 21, 2, 3, 22, 23, 24, 25, 26, 38, 39, 40, 41, 42] (by decide +kernel) (by decide +kernel)
set_option maxRecDepth 20000 in
theorem gX2_init_X0_init_n15 : GoodIn wsX2_init (wsX0_init) := ggX2_init_X0_init
theorem dX2_init_0 : decode cX2_init 0 = .ok (.aload_n 0, 1) := by decide +kernel
theorem dX2_init_1 : decode cX2_init 1 = .ok (.invokespecial 3, 3) := by decide +kernel
theorem dX2_init_4 : decode cX2_init 4 = .ok (.aload_n 0, 1) := by decide +kernel
theorem dX2_init_5 : decode cX2_init 5 = .ok (.bipush 42, 2) := by decide +kernel
theorem dX2_init_7 : decode cX2_init 7 = .ok (.newarray .int, 2) := by decide +kernel
theorem dX2_init_9 : decode cX2_init 9 = .ok (.putfield 9, 3) := by decide +kernel
theorem dX2_init_12 : decode cX2_init 12 = .ok (.aload_n 0, 1) := by decide +kernel
theorem dX2_init_13 : decode cX2_init 13 = .ok (.new 13, 3) := by decide +kernel
theorem dX2_init_16 : decode cX2_init 16 = .ok (.dup, 1) := by decide +kernel
theorem dX2_init_17 : decode cX2_init 17 = .ok (.invokespecial 15, 3) := by decide +kernel
theorem dX2_init_20 : decode cX2_init 20 = .ok (.putfield 16, 3) := by decide +kernel
theorem dX2_init_23 : decode cX2_init 23 = .ok (.aload_n 0, 1) := by decide +kernel
theorem dX2_init_24 : decode cX2_init 24 = .ok (.new 13, 3) := by decide +kernel
theorem dX2_init_27 : decode cX2_init 27 = .ok (.dup, 1) := by decide +kernel
theorem dX2_init_28 : decode cX2_init 28 = .ok (.invokespecial 15, 3) := by decide +kernel
theorem dX2_init_31 : decode cX2_init 31 = .ok (.putfield 20, 3) := by decide +kernel
theorem dX2_init_34 : decode cX2_init 34 = .ok (.aload_n 0, 1) := by decide +kernel
theorem dX2_init_35 : decode cX2_init 35 = .ok (.bipush 42, 2) := by decide +kernel
theorem dX2_init_37 : decode cX2_init 37 = .ok (.putfield 23, 3) := by decide +kernel
theorem dX2_init_40 : decode cX2_init 40 = .ok (.aload_n 0, 1) := by decide +kernel
theorem dX2_init_41 : decode cX2_init 41 = .ok (.iconst (-1), 1) := by decide +kernel
theorem dX2_init_42 : decode cX2_init 42 = .ok (.putfield 27, 3) := by decide +kernel
theorem dX2_init_45 : decode cX2_init 45 = .ok (.aload_n 0, 1) := by decide +kernel
theorem dX2_init_46 : decode cX2_init 46 = .ok (.iconst (-1), 1) := by decide +kernel
theorem dX2_init_47 : decode cX2_init 47 = .ok (.putfield 30, 3) := by decide +kernel
theorem dX2_init_50 : decode cX2_init 50 = .ok (.aload_n 0, 1) := by decide +kernel
theorem dX2_init_51 : decode cX2_init 51 = .ok (.iconst (-1), 1) := by decide +kernel
theorem dX2_init_52 : decode cX2_init 52 = .ok (.putfield 33, 3) := by decide +kernel
theorem dX2_init_55 : decode cX2_init 55 = .ok (.aload_n 0, 1) := by decide +kernel
theorem dX2_init_56 : decode cX2_init 56 = .ok (.iconst 0, 1) := by decide +kernel
theorem dX2_init_57 : decode cX2_init 57 = .ok (.putfield 36, 3) := by decide +kernel
theorem dX2_init_60 : decode cX2_init 60 = .ok (.aload_n 0, 1) := by decide +kernel
theorem dX2_init_61 : decode cX2_init 61 = .ok (.iconst 0, 1) := by decide +kernel
theorem dX2_init_62 : decode cX2_init 62 = .ok (.putfield 39, 3) := by decide +kernel
theorem dX2_init_65 : decode cX2_init 65 = .ok (.aload_n 0, 1) := by decide +kernel
theorem dX2_init_66 : decode cX2_init 66 = .ok (.aconst_null, 1) := by decide +kernel
theorem dX2_init_67 : decode cX2_init 67 = .ok (.putfield 42, 3) := by decide +kernel
theorem dX2_init_70 : decode cX2_init 70 = .ok (.aload_n 0, 1) := by decide +kernel
theorem dX2_init_71 : decode cX2_init 71 = .ok (.iconst 0, 1) := by decide +kernel
theorem dX2_init_72 : decode cX2_init 72 = .ok (.putfield 46, 3) := by decide +kernel
theorem dX2_init_75 : decode cX2_init 75 = .ok (.return_, 1) := by decide +kernel
set_option maxRecDepth 20000 in
theorem ggX2_deal_X2_shuffle : GoodIn wsX2_deal wsX2_shuffle := goodIn_r _ [13, 1, 14, 15, 16, 17, 18, 12, 19, 48, 49, 50, 51, 52, 53, 54, 55, 56, 57, 58] (by decide +kernel) (by decide +kernel)
set_option maxRecDepth 20000 in
theorem gX2_deal_X2_shuffle : GoodIn wsX2_deal (wsV RX2 50 RX2 yX2_shuffle wsX2_shuffle) := goodIn_app (goodIn_of _ (by decide +kernel)) ggX2_deal_X2_shuffle
set_option maxRecDepth 20000 in
theorem ggX2_deal_X2_putTurnedUpLast : GoodIn wsX2_deal wsX2_putTurnedUpLast := goodIn_r _ [23, 1, 24, 25, 26, 27, 48, 49, 50, 51, 52, 53, 54, 55, 56, 57, 58] (by decide +kernel) (by decide +kernel)
set_option maxRecDepth 20000 in
theorem gX2_deal_X2_putTurnedUpLast : GoodIn wsX2_deal (wsV RX2 54 RX2 yX2_putTurnedUpLast wsX2_putTurnedUpLast) := goodIn_app (goodIn_of _ (by decide +kernel)) ggX2_deal_X2_putTurnedUpLast
set_option maxRecDepth 20000 in
theorem ggX2_deal_X2_handFrom : GoodIn wsX2_deal wsX2_handFrom := goodIn_r _ [31, 1, 32, 33, 12, 34, 48, 49, 50, 51, 52, 53, 54, 55, 56, 57, 58] (by decide +kernel) (by decide +kernel)
set_option maxRecDepth 20000 in
theorem gX2_deal_X2_handFrom : GoodIn wsX2_deal (wsV RX2 57 RX2 yX2_handFrom wsX2_handFrom) := goodIn_app (goodIn_of _ (by decide +kernel)) ggX2_deal_X2_handFrom
set_option maxRecDepth 20000 in
theorem ggX2_deal_X0_begin : GoodIn wsX2_deal wsX0_begin := goodIn_r _ [39, 40, 41, 42, 43, 44, 59, 60, 61, 62, 63] (by decide +kernel) (by decide +kernel)
set_option maxRecDepth 20000 in
theorem gX2_deal_X0_begin : GoodIn wsX2_deal (wsV RX2 61 RX0 yX0_begin wsX0_begin) := goodIn_app (goodIn_of _ (by decide +kernel)) ggX2_deal_X0_begin
set_option maxRecDepth 20000 in
theorem ggX2_deal_X2_isMildew : GoodIn wsX2_deal wsX2_isMildew := goodIn_r _ [47] (by decide +kernel) (by decide +kernel)
set_option maxRecDepth 20000 in
theorem gX2_deal_X2_isMildew : GoodIn wsX2_deal (va_wsS RX2 64 yX2_isMildew wsX2_isMildew) := goodIn_app (goodIn_of _ (by decide +kernel)) ggX2_deal_X2_isMildew
theorem dX2_deal_0 : decode cX2_deal 0 = .ok (.aload_n 0, 1) := by decide +kernel
theorem dX2_deal_1 : decode cX2_deal 1 = .ok (.lload_n 1, 1) := by decide +kernel
theorem dX2_deal_2 : decode cX2_deal 2 = .ok (.invokevirtual 50, 3) := by decide +kernel
theorem dX2_deal_5 : decode cX2_deal 5 = .ok (.aload_n 0, 1) := by decide +kernel
theorem dX2_deal_6 : decode cX2_deal 6 = .ok (.getfield 9, 3) := by decide +kernel
theorem dX2_deal_9 : decode cX2_deal 9 = .ok (.bipush 12, 2) := by decide +kernel
theorem dX2_deal_11 : decode cX2_deal 11 = .ok (.iaload, 1) := by decide +kernel
theorem dX2_deal_12 : decode cX2_deal 12 = .ok (.istore_n 3, 1) := by decide +kernel
theorem dX2_deal_13 : decode cX2_deal 13 = .ok (.aload_n 0, 1) := by decide +kernel
theorem dX2_deal_14 : decode cX2_deal 14 = .ok (.invokevirtual 54, 3) := by decide +kernel
theorem dX2_deal_17 : decode cX2_deal 17 = .ok (.aload_n 0, 1) := by decide +kernel
theorem dX2_deal_18 : decode cX2_deal 18 = .ok (.getfield 16, 3) := by decide +kernel
theorem dX2_deal_21 : decode cX2_deal 21 = .ok (.aload_n 0, 1) := by decide +kernel
theorem dX2_deal_22 : decode cX2_deal 22 = .ok (.iconst 0, 1) := by decide +kernel
theorem dX2_deal_23 : decode cX2_deal 23 = .ok (.invokevirtual 57, 3) := by decide +kernel
theorem dX2_deal_26 : decode cX2_deal 26 = .ok (.invokevirtual 61, 3) := by decide +kernel
theorem dX2_deal_29 : decode cX2_deal 29 = .ok (.aload_n 0, 1) := by decide +kernel
theorem dX2_deal_30 : decode cX2_deal 30 = .ok (.getfield 20, 3) := by decide +kernel
theorem dX2_deal_33 : decode cX2_deal 33 = .ok (.aload_n 0, 1) := by decide +kernel
theorem dX2_deal_34 : decode cX2_deal 34 = .ok (.bipush 6, 2) := by decide +kernel
theorem dX2_deal_36 : decode cX2_deal 36 = .ok (.invokevirtual 57, 3) := by decide +kernel
theorem dX2_deal_39 : decode cX2_deal 39 = .ok (.invokevirtual 61, 3) := by decide +kernel
theorem dX2_deal_42 : decode cX2_deal 42 = .ok (.aload_n 0, 1) := by decide +kernel
theorem dX2_deal_43 : decode cX2_deal 43 = .ok (.bipush 12, 2) := by decide +kernel
theorem dX2_deal_45 : decode cX2_deal 45 = .ok (.putfield 23, 3) := by decide +kernel
theorem dX2_deal_48 : decode cX2_deal 48 = .ok (.aload_n 0, 1) := by decide +kernel
theorem dX2_deal_49 : decode cX2_deal 49 = .ok (.iload_n 3, 1) := by decide +kernel
theorem dX2_deal_50 : decode cX2_deal 50 = .ok (.invokestatic 64, 3) := by decide +kernel
theorem dX2_deal_53 : decode cX2_deal 53 = .ok (.ifCond .eq 7, 3) := by decide +kernel
theorem dX2_deal_56 : decode cX2_deal 56 = .ok (.iconst 0, 1) := by decide +kernel
theorem dX2_deal_57 : decode cX2_deal 57 = .ok (.goto 7, 3) := by decide +kernel
theorem dX2_deal_60 : decode cX2_deal 60 = .ok (.iload_n 3, 1) := by decide +kernel
theorem dX2_deal_61 : decode cX2_deal 61 = .ok (.bipush 10, 2) := by decide +kernel
theorem dX2_deal_63 : decode cX2_deal 63 = .ok (.idiv, 1) := by decide +kernel
theorem dX2_deal_64 : decode cX2_deal 64 = .ok (.putfield 27, 3) := by decide +kernel
theorem dX2_deal_67 : decode cX2_deal 67 = .ok (.aload_n 0, 1) := by decide +kernel
theorem dX2_deal_68 : decode cX2_deal 68 = .ok (.iconst (-1), 1) := by decide +kernel
theorem dX2_deal_69 : decode cX2_deal 69 = .ok (.putfield 30, 3) := by decide +kernel
theorem dX2_deal_72 : decode cX2_deal 72 = .ok (.aload_n 0, 1) := by decide +kernel
theorem dX2_deal_73 : decode cX2_deal 73 = .ok (.iconst 0, 1) := by decide +kernel
theorem dX2_deal_74 : decode cX2_deal 74 = .ok (.putfield 33, 3) := by decide +kernel
theorem dX2_deal_77 : decode cX2_deal 77 = .ok (.aload_n 0, 1) := by decide +kernel
theorem dX2_deal_78 : decode cX2_deal 78 = .ok (.iconst 0, 1) := by decide +kernel
theorem dX2_deal_79 : decode cX2_deal 79 = .ok (.putfield 46, 3) := by decide +kernel
theorem dX2_deal_82 : decode cX2_deal 82 = .ok (.aload_n 0, 1) := by decide +kernel
theorem dX2_deal_83 : decode cX2_deal 83 = .ok (.getfield 27, 3) := by decide +kernel
theorem dX2_deal_86 : decode cX2_deal 86 = .ok (.ireturn, 1) := by decide +kernel
set_option maxRecDepth 20000 in
theorem ggX2_play_X2_isCard : GoodIn wsX2_play wsX2_isCard := goodIn_r _ [12] (by decide +kernel) (by decide +kernel)
set_option maxRecDepth 20000 in
theorem gX2_play_X2_isCard : GoodIn wsX2_play (va_wsS RX2 68 yX2_isCard wsX2_isCard) := goodIn_app (goodIn_of _ (by decide +kernel)) ggX2_play_X2_isCard
set_option maxRecDepth 20000 in
theorem ggX2_play_X2_reasonAgainst : GoodIn wsX2_play wsX2_reasonAgainst := goodIn_r _ [16, 5, 8, 17, 18, 19, 20, 21, 11, 22, 6, 23, 24, 25, 26, 27, 28, 29, 30, 31, 32, 33, 34, 35, 36, 37, 38, 39, 40, 41, 42, 43, 44, 45, 84, 85, 86, 87, 88, 89, 90, 91, 92, 93, 94, 95, 96, 97, 98, 99] (by decide +kernel) (by decide +kernel)
set_option maxRecDepth 20000 in
theorem gX2_play_X2_reasonAgainst : GoodIn wsX2_play (wsV RX2 78 RX2 yX2_reasonAgainst wsX2_reasonAgainst) := goodIn_app (goodIn_of _ (by decide +kernel)) ggX2_play_X2_reasonAgainst
set_option maxRecDepth 20000 in
theorem ggX2_play_X2_archivist : GoodIn wsX2_play wsX2_archivist := goodIn_r _ [26, 27, 28, 84, 85, 86, 87, 88, 89, 90, 91, 92, 93, 94] (by decide +kernel) (by decide +kernel)
set_option maxRecDepth 20000 in
theorem gX2_play_X2_archivist : GoodIn wsX2_play (wsV RX2 87 RX2 yX2_archivist wsX2_archivist) := goodIn_app (goodIn_of _ (by decide +kernel)) ggX2_play_X2_archivist
set_option maxRecDepth 20000 in
theorem ggX2_play_X2_bit : GoodIn wsX2_play wsX2_bit := goodIn_r _ [48] (by decide +kernel) (by decide +kernel)
set_option maxRecDepth 20000 in
theorem gX2_play_X2_bit : GoodIn wsX2_play (va_wsS RX2 95 yX2_bit wsX2_bit) := goodIn_app (goodIn_of _ (by decide +kernel)) ggX2_play_X2_bit
set_option maxRecDepth 20000 in
theorem ggX2_play_X2_finishTrick : GoodIn wsX2_play wsX2_finishTrick := goodIn_r _ [52, 53, 54, 8, 55, 56, 27, 28, 5, 6, 57, 58, 59, 11, 60, 18, 61, 62, 63, 36, 37, 38, 23, 24, 25, 26, 64, 65, 66, 46, 47, 48, 67, 68, 69, 70, 71, 72, 73, 74, 75, 76, 17, 77, 78, 79, 80, 81, 82, 83, 95, 96, 97, 98, 99, 84, 85, 86, 87, 88, 89, 90, 91, 92, 93, 94] (by decide +kernel) (by decide +kernel)
set_option maxRecDepth 20000 in
theorem gX2_play_X2_finishTrick : GoodIn wsX2_play (wsV RX2 100 RX2 yX2_finishTrick wsX2_finishTrick) := goodIn_app (goodIn_of _ (by decide +kernel)) ggX2_play_X2_finishTrick
theorem dX2_play_0 : decode cX2_play 0 = .ok (.iload_n 1, 1) := by decide +kernel
theorem dX2_play_1 : decode cX2_play 1 = .ok (.invokestatic 68, 3) := by decide +kernel
theorem dX2_play_4 : decode cX2_play 4 = .ok (.ifCond .ne 13, 3) := by decide +kernel
theorem dX2_play_7 : decode cX2_play 7 = .ok (.new 71, 3) := by decide +kernel
theorem dX2_play_10 : decode cX2_play 10 = .ok (.dup, 1) := by decide +kernel
theorem dX2_play_11 : decode cX2_play 11 = .ok (.ldc 73, 2) := by decide +kernel
theorem dX2_play_13 : decode cX2_play 13 = .ok (.invokespecial 75, 3) := by decide +kernel
theorem dX2_play_16 : decode cX2_play 16 = .ok (.athrow, 1) := by decide +kernel
theorem dX2_play_17 : decode cX2_play 17 = .ok (.aload_n 0, 1) := by decide +kernel
theorem dX2_play_18 : decode cX2_play 18 = .ok (.iload_n 1, 1) := by decide +kernel
theorem dX2_play_19 : decode cX2_play 19 = .ok (.invokevirtual 78, 3) := by decide +kernel
theorem dX2_play_22 : decode cX2_play 22 = .ok (.ifCond .eq 13, 3) := by decide +kernel
theorem dX2_play_25 : decode cX2_play 25 = .ok (.new 82, 3) := by decide +kernel
theorem dX2_play_28 : decode cX2_play 28 = .ok (.dup, 1) := by decide +kernel
theorem dX2_play_29 : decode cX2_play 29 = .ok (.ldc 84, 2) := by decide +kernel
theorem dX2_play_31 : decode cX2_play 31 = .ok (.invokespecial 86, 3) := by decide +kernel
theorem dX2_play_34 : decode cX2_play 34 = .ok (.athrow, 1) := by decide +kernel
theorem dX2_play_35 : decode cX2_play 35 = .ok (.aload_n 0, 1) := by decide +kernel
theorem dX2_play_36 : decode cX2_play 36 = .ok (.aload_n 0, 1) := by decide +kernel
theorem dX2_play_37 : decode cX2_play 37 = .ok (.getfield 33, 3) := by decide +kernel
theorem dX2_play_40 : decode cX2_play 40 = .ok (.invokevirtual 87, 3) := by decide +kernel
theorem dX2_play_43 : decode cX2_play 43 = .ok (.astore_n 2, 1) := by decide +kernel
theorem dX2_play_44 : decode cX2_play 44 = .ok (.aload_n 2, 1) := by decide +kernel
theorem dX2_play_45 : decode cX2_play 45 = .ok (.dup, 1) := by decide +kernel
theorem dX2_play_46 : decode cX2_play 46 = .ok (.getfield 91, 3) := by decide +kernel
theorem dX2_play_49 : decode cX2_play 49 = .ok (.iload_n 1, 1) := by decide +kernel
theorem dX2_play_50 : decode cX2_play 50 = .ok (.invokestatic 95, 3) := by decide +kernel
theorem dX2_play_53 : decode cX2_play 53 = .ok (.ldc2_w 98, 3) := by decide +kernel
theorem dX2_play_56 : decode cX2_play 56 = .ok (.lxor, 1) := by decide +kernel
theorem dX2_play_57 : decode cX2_play 57 = .ok (.land, 1) := by decide +kernel
theorem dX2_play_58 : decode cX2_play 58 = .ok (.putfield 91, 3) := by decide +kernel
theorem dX2_play_61 : decode cX2_play 61 = .ok (.aload_n 0, 1) := by decide +kernel
theorem dX2_play_62 : decode cX2_play 62 = .ok (.getfield 30, 3) := by decide +kernel
theorem dX2_play_65 : decode cX2_play 65 = .ok (.iconst (-1), 1) := by decide +kernel
theorem dX2_play_66 : decode cX2_play 66 = .ok (.if_icmp .eq 9, 3) := by decide +kernel
theorem dX2_play_69 : decode cX2_play 69 = .ok (.aload_n 0, 1) := by decide +kernel
theorem dX2_play_70 : decode cX2_play 70 = .ok (.iload_n 1, 1) := by decide +kernel
theorem dX2_play_71 : decode cX2_play 71 = .ok (.invokevirtual 100, 3) := by decide +kernel
theorem dX2_play_74 : decode cX2_play 74 = .ok (.ireturn, 1) := by decide +kernel
theorem dX2_play_75 : decode cX2_play 75 = .ok (.aload_n 0, 1) := by decide +kernel
theorem dX2_play_76 : decode cX2_play 76 = .ok (.iload_n 1, 1) := by decide +kernel
theorem dX2_play_77 : decode cX2_play 77 = .ok (.putfield 30, 3) := by decide +kernel
theorem dX2_play_80 : decode cX2_play 80 = .ok (.aload_n 0, 1) := by decide +kernel
theorem dX2_play_81 : decode cX2_play 81 = .ok (.iconst 1, 1) := by decide +kernel
theorem dX2_play_82 : decode cX2_play 82 = .ok (.aload_n 0, 1) := by decide +kernel
theorem dX2_play_83 : decode cX2_play 83 = .ok (.getfield 33, 3) := by decide +kernel
theorem dX2_play_86 : decode cX2_play 86 = .ok (.isub, 1) := by decide +kernel
theorem dX2_play_87 : decode cX2_play 87 = .ok (.putfield 33, 3) := by decide +kernel
theorem dX2_play_90 : decode cX2_play 90 = .ok (.iconst (-1), 1) := by decide +kernel
theorem dX2_play_91 : decode cX2_play 91 = .ok (.ireturn, 1) := by decide +kernel
set_option maxRecDepth 20000 in
theorem ggX2_putOnGloves_X2_archivist : GoodIn wsX2_putOnGloves wsX2_archivist := goodIn_r _ [9, 10, 11, 12, 13, 14, 15, 16, 17, 18, 19, 20, 21, 22] (by decide +kernel) (by decide +kernel)
set_option maxRecDepth 20000 in
theorem gX2_putOnGloves_X2_archivist : GoodIn wsX2_putOnGloves (wsV RX2 87 RX2 yX2_archivist wsX2_archivist) := goodIn_app (goodIn_of _ (by decide +kernel)) ggX2_putOnGloves_X2_archivist
theorem dX2_putOnGloves_0 : decode cX2_putOnGloves 0 = .ok (.aload_n 0, 1) := by decide +kernel
theorem dX2_putOnGloves_1 : decode cX2_putOnGloves 1 = .ok (.getfield 33, 3) := by decide +kernel
theorem dX2_putOnGloves_4 : decode cX2_putOnGloves 4 = .ok (.iconst (-1), 1) := by decide +kernel
theorem dX2_putOnGloves_5 : decode cX2_putOnGloves 5 = .ok (.if_icmp .ne 13, 3) := by decide +kernel
theorem dX2_putOnGloves_8 : decode cX2_putOnGloves 8 = .ok (.new 82, 3) := by decide +kernel
theorem dX2_putOnGloves_11 : decode cX2_putOnGloves 11 = .ok (.dup, 1) := by decide +kernel
theorem dX2_putOnGloves_12 : decode cX2_putOnGloves 12 = .ok (.ldc 103, 2) := by decide +kernel
theorem dX2_putOnGloves_14 : decode cX2_putOnGloves 14 = .ok (.invokespecial 86, 3) := by decide +kernel
theorem dX2_putOnGloves_17 : decode cX2_putOnGloves 17 = .ok (.athrow, 1) := by decide +kernel
theorem dX2_putOnGloves_18 : decode cX2_putOnGloves 18 = .ok (.aload_n 0, 1) := by decide +kernel
theorem dX2_putOnGloves_19 : decode cX2_putOnGloves 19 = .ok (.aload_n 0, 1) := by decide +kernel
theorem dX2_putOnGloves_20 : decode cX2_putOnGloves 20 = .ok (.getfield 33, 3) := by decide +kernel
theorem dX2_putOnGloves_23 : decode cX2_putOnGloves 23 = .ok (.invokevirtual 87, 3) := by decide +kernel
theorem dX2_putOnGloves_26 : decode cX2_putOnGloves 26 = .ok (.astore_n 1, 1) := by decide +kernel
theorem dX2_putOnGloves_27 : decode cX2_putOnGloves 27 = .ok (.aload_n 1, 1) := by decide +kernel
theorem dX2_putOnGloves_28 : decode cX2_putOnGloves 28 = .ok (.getfield 105, 3) := by decide +kernel
theorem dX2_putOnGloves_31 : decode cX2_putOnGloves 31 = .ok (.ifCond .eq 13, 3) := by decide +kernel
theorem dX2_putOnGloves_34 : decode cX2_putOnGloves 34 = .ok (.new 82, 3) := by decide +kernel
theorem dX2_putOnGloves_37 : decode cX2_putOnGloves 37 = .ok (.dup, 1) := by decide +kernel
theorem dX2_putOnGloves_38 : decode cX2_putOnGloves 38 = .ok (.ldc 108, 2) := by decide +kernel
theorem dX2_putOnGloves_40 : decode cX2_putOnGloves 40 = .ok (.invokespecial 86, 3) := by decide +kernel
theorem dX2_putOnGloves_43 : decode cX2_putOnGloves 43 = .ok (.athrow, 1) := by decide +kernel
theorem dX2_putOnGloves_44 : decode cX2_putOnGloves 44 = .ok (.aload_n 1, 1) := by decide +kernel
theorem dX2_putOnGloves_45 : decode cX2_putOnGloves 45 = .ok (.iconst 1, 1) := by decide +kernel
theorem dX2_putOnGloves_46 : decode cX2_putOnGloves 46 = .ok (.putfield 105, 3) := by decide +kernel
theorem dX2_putOnGloves_49 : decode cX2_putOnGloves 49 = .ok (.aload_n 0, 1) := by decide +kernel
theorem dX2_putOnGloves_50 : decode cX2_putOnGloves 50 = .ok (.getfield 33, 3) := by decide +kernel
theorem dX2_putOnGloves_53 : decode cX2_putOnGloves 53 = .ok (.ireturn, 1) := by decide +kernel
set_option maxRecDepth 20000 in
theorem ggX2_whyNot_X2_isCard : GoodIn wsX2_whyNot wsX2_isCard := goodIn_r _ [6] (by decide +kernel) (by decide +kernel)
set_option maxRecDepth 20000 in
theorem gX2_whyNot_X2_isCard : GoodIn wsX2_whyNot (va_wsS RX2 68 yX2_isCard wsX2_isCard) := goodIn_app (goodIn_of _ (by decide +kernel)) ggX2_whyNot_X2_isCard
set_option maxRecDepth 20000 in
theorem ggX2_whyNot_X2_reasonAgainst : GoodIn wsX2_whyNot wsX2_reasonAgainst := goodIn_r _ [10, 11, 12, 13, 14, 15, 16, 17, 5, 18, 19, 20, 21, 22, 23, 24, 25, 26, 27, 28, 29, 30, 31, 32, 33, 34, 35, 36, 37, 38, 39, 40, 41, 42, 43, 44, 45, 46, 47, 48, 49, 50, 51, 52, 53, 54, 55, 56, 57, 58] (by decide +kernel) (by decide +kernel)
set_option maxRecDepth 20000 in
theorem gX2_whyNot_X2_reasonAgainst : GoodIn wsX2_whyNot (wsV RX2 78 RX2 yX2_reasonAgainst wsX2_reasonAgainst) := goodIn_app (goodIn_of _ (by decide +kernel)) ggX2_whyNot_X2_reasonAgainst
theorem dX2_whyNot_0 : decode cX2_whyNot 0 = .ok (.iload_n 1, 1) := by decide +kernel
theorem dX2_whyNot_1 : decode cX2_whyNot 1 = .ok (.invokestatic 68, 3) := by decide +kernel
theorem dX2_whyNot_4 : decode cX2_whyNot 4 = .ok (.ifCond .ne 13, 3) := by decide +kernel
theorem dX2_whyNot_7 : decode cX2_whyNot 7 = .ok (.new 71, 3) := by decide +kernel
theorem dX2_whyNot_10 : decode cX2_whyNot 10 = .ok (.dup, 1) := by decide +kernel
theorem dX2_whyNot_11 : decode cX2_whyNot 11 = .ok (.ldc 73, 2) := by decide +kernel
theorem dX2_whyNot_13 : decode cX2_whyNot 13 = .ok (.invokespecial 75, 3) := by decide +kernel
theorem dX2_whyNot_16 : decode cX2_whyNot 16 = .ok (.athrow, 1) := by decide +kernel
theorem dX2_whyNot_17 : decode cX2_whyNot 17 = .ok (.aload_n 0, 1) := by decide +kernel
theorem dX2_whyNot_18 : decode cX2_whyNot 18 = .ok (.iload_n 1, 1) := by decide +kernel
theorem dX2_whyNot_19 : decode cX2_whyNot 19 = .ok (.invokevirtual 78, 3) := by decide +kernel
theorem dX2_whyNot_22 : decode cX2_whyNot 22 = .ok (.ireturn, 1) := by decide +kernel
theorem dX2_isPlaying_0 : decode cX2_isPlaying 0 = .ok (.aload_n 0, 1) := by decide +kernel
theorem dX2_isPlaying_1 : decode cX2_isPlaying 1 = .ok (.getfield 33, 3) := by decide +kernel
theorem dX2_isPlaying_4 : decode cX2_isPlaying 4 = .ok (.iconst (-1), 1) := by decide +kernel
theorem dX2_isPlaying_5 : decode cX2_isPlaying 5 = .ok (.if_icmp .eq 7, 3) := by decide +kernel
theorem dX2_isPlaying_8 : decode cX2_isPlaying 8 = .ok (.iconst 1, 1) := by decide +kernel
theorem dX2_isPlaying_9 : decode cX2_isPlaying 9 = .ok (.goto 4, 3) := by decide +kernel
theorem dX2_isPlaying_12 : decode cX2_isPlaying 12 = .ok (.iconst 0, 1) := by decide +kernel
theorem dX2_isPlaying_13 : decode cX2_isPlaying 13 = .ok (.ireturn, 1) := by decide +kernel
theorem dX2_turn_0 : decode cX2_turn 0 = .ok (.aload_n 0, 1) := by decide +kernel
theorem dX2_turn_1 : decode cX2_turn 1 = .ok (.getfield 33, 3) := by decide +kernel
theorem dX2_turn_4 : decode cX2_turn 4 = .ok (.ireturn, 1) := by decide +kernel
theorem dX2_led_0 : decode cX2_led 0 = .ok (.aload_n 0, 1) := by decide +kernel
theorem dX2_led_1 : decode cX2_led 1 = .ok (.getfield 30, 3) := by decide +kernel
theorem dX2_led_4 : decode cX2_led 4 = .ok (.ireturn, 1) := by decide +kernel
theorem dX2_trumps_0 : decode cX2_trumps 0 = .ok (.aload_n 0, 1) := by decide +kernel
theorem dX2_trumps_1 : decode cX2_trumps 1 = .ok (.getfield 27, 3) := by decide +kernel
theorem dX2_trumps_4 : decode cX2_trumps 4 = .ok (.ireturn, 1) := by decide +kernel
theorem dX2_pile_0 : decode cX2_pile 0 = .ok (.bipush 42, 2) := by decide +kernel
theorem dX2_pile_2 : decode cX2_pile 2 = .ok (.aload_n 0, 1) := by decide +kernel
theorem dX2_pile_3 : decode cX2_pile 3 = .ok (.getfield 23, 3) := by decide +kernel
theorem dX2_pile_6 : decode cX2_pile 6 = .ok (.isub, 1) := by decide +kernel
theorem dX2_pile_7 : decode cX2_pile 7 = .ok (.ireturn, 1) := by decide +kernel
set_option maxRecDepth 20000 in
theorem ggX2_cards_X2_isArchivist : GoodIn wsX2_cards wsX2_isArchivist := goodIn_r _ [7] (by decide +kernel) (by decide +kernel)
set_option maxRecDepth 20000 in
theorem gX2_cards_X2_isArchivist : GoodIn wsX2_cards (va_wsS RX2 110 yX2_isArchivist wsX2_isArchivist) := goodIn_app (goodIn_of _ (by decide +kernel)) ggX2_cards_X2_isArchivist
set_option maxRecDepth 20000 in
theorem ggX2_cards_X2_archivist : GoodIn wsX2_cards wsX2_archivist := goodIn_r _ [11, 12, 13, 26, 27, 28, 29, 30, 31, 32, 33, 34, 35, 36] (by decide +kernel) (by decide +kernel)
set_option maxRecDepth 20000 in
theorem gX2_cards_X2_archivist : GoodIn wsX2_cards (wsV RX2 87 RX2 yX2_archivist wsX2_archivist) := goodIn_app (goodIn_of _ (by decide +kernel)) ggX2_cards_X2_archivist
set_option maxRecDepth 20000 in
theorem ggX2_cards_J13_bitCount_95d88 : GoodIn wsX2_cards wsJ13_bitCount_95d88 := goodIn_r _ [17, 18, 19, 20] (by decide +kernel) (by decide +kernel)
set_option maxRecDepth 20000 in
theorem gX2_cards_J13_bitCount_95d88 : GoodIn wsX2_cards (va_wsS RX2 118 yJ13_bitCount_95d88 wsJ13_bitCount_95d88) := goodIn_app (goodIn_of _ (by decide +kernel)) ggX2_cards_J13_bitCount_95d88
theorem dX2_cards_0 : decode cX2_cards 0 = .ok (.iload_n 1, 1) := by decide +kernel
theorem dX2_cards_1 : decode cX2_cards 1 = .ok (.invokestatic 110, 3) := by decide +kernel
theorem dX2_cards_4 : decode cX2_cards 4 = .ok (.ifCond .ne 13, 3) := by decide +kernel
theorem dX2_cards_7 : decode cX2_cards 7 = .ok (.new 113, 3) := by decide +kernel
theorem dX2_cards_10 : decode cX2_cards 10 = .ok (.dup, 1) := by decide +kernel
theorem dX2_cards_11 : decode cX2_cards 11 = .ok (.ldc 115, 2) := by decide +kernel
theorem dX2_cards_13 : decode cX2_cards 13 = .ok (.invokespecial 117, 3) := by decide +kernel
theorem dX2_cards_16 : decode cX2_cards 16 = .ok (.athrow, 1) := by decide +kernel
theorem dX2_cards_17 : decode cX2_cards 17 = .ok (.aload_n 0, 1) := by decide +kernel
theorem dX2_cards_18 : decode cX2_cards 18 = .ok (.iload_n 1, 1) := by decide +kernel
theorem dX2_cards_19 : decode cX2_cards 19 = .ok (.invokevirtual 87, 3) := by decide +kernel
theorem dX2_cards_22 : decode cX2_cards 22 = .ok (.getfield 91, 3) := by decide +kernel
theorem dX2_cards_25 : decode cX2_cards 25 = .ok (.invokestatic 118, 3) := by decide +kernel
theorem dX2_cards_28 : decode cX2_cards 28 = .ok (.ireturn, 1) := by decide +kernel
set_option maxRecDepth 20000 in
theorem ggX2_cardAt_X2_isArchivist : GoodIn wsX2_cardAt wsX2_isArchivist := goodIn_r _ [7] (by decide +kernel) (by decide +kernel)
set_option maxRecDepth 20000 in
theorem gX2_cardAt_X2_isArchivist : GoodIn wsX2_cardAt (va_wsS RX2 110 yX2_isArchivist wsX2_isArchivist) := goodIn_app (goodIn_of _ (by decide +kernel)) ggX2_cardAt_X2_isArchivist
set_option maxRecDepth 20000 in
theorem ggX2_cardAt_X2_archivist : GoodIn wsX2_cardAt wsX2_archivist := goodIn_r _ [11, 12, 13, 22, 23, 24, 25, 26, 27, 28, 29, 30, 31, 32] (by decide +kernel) (by decide +kernel)
set_option maxRecDepth 20000 in
theorem gX2_cardAt_X2_archivist : GoodIn wsX2_cardAt (wsV RX2 87 RX2 yX2_archivist wsX2_archivist) := goodIn_app (goodIn_of _ (by decide +kernel)) ggX2_cardAt_X2_archivist
set_option maxRecDepth 20000 in
theorem ggX2_cardAt_X2_has : GoodIn wsX2_cardAt wsX2_has := goodIn_r _ [16] (by decide +kernel) (by decide +kernel)
set_option maxRecDepth 20000 in
theorem gX2_cardAt_X2_has : GoodIn wsX2_cardAt (va_wsS RX2 124 yX2_has wsX2_has) := goodIn_app (goodIn_of _ (by decide +kernel)) ggX2_cardAt_X2_has
theorem dX2_cardAt_0 : decode cX2_cardAt 0 = .ok (.iload_n 1, 1) := by decide +kernel
theorem dX2_cardAt_1 : decode cX2_cardAt 1 = .ok (.invokestatic 110, 3) := by decide +kernel
theorem dX2_cardAt_4 : decode cX2_cardAt 4 = .ok (.ifCond .ne 13, 3) := by decide +kernel
theorem dX2_cardAt_7 : decode cX2_cardAt 7 = .ok (.new 113, 3) := by decide +kernel
theorem dX2_cardAt_10 : decode cX2_cardAt 10 = .ok (.dup, 1) := by decide +kernel
theorem dX2_cardAt_11 : decode cX2_cardAt 11 = .ok (.ldc 115, 2) := by decide +kernel
theorem dX2_cardAt_13 : decode cX2_cardAt 13 = .ok (.invokespecial 117, 3) := by decide +kernel
theorem dX2_cardAt_16 : decode cX2_cardAt 16 = .ok (.athrow, 1) := by decide +kernel
theorem dX2_cardAt_17 : decode cX2_cardAt 17 = .ok (.aload_n 0, 1) := by decide +kernel
theorem dX2_cardAt_18 : decode cX2_cardAt 18 = .ok (.iload_n 1, 1) := by decide +kernel
theorem dX2_cardAt_19 : decode cX2_cardAt 19 = .ok (.invokevirtual 87, 3) := by decide +kernel
theorem dX2_cardAt_22 : decode cX2_cardAt 22 = .ok (.getfield 91, 3) := by decide +kernel
theorem dX2_cardAt_25 : decode cX2_cardAt 25 = .ok (.lstore_n 3, 1) := by decide +kernel
theorem dX2_cardAt_26 : decode cX2_cardAt 26 = .ok (.iconst 0, 1) := by decide +kernel
theorem dX2_cardAt_27 : decode cX2_cardAt 27 = .ok (.istore 5, 2) := by decide +kernel
theorem dX2_cardAt_29 : decode cX2_cardAt 29 = .ok (.iconst 0, 1) := by decide +kernel
theorem dX2_cardAt_30 : decode cX2_cardAt 30 = .ok (.istore 6, 2) := by decide +kernel
theorem dX2_cardAt_32 : decode cX2_cardAt 32 = .ok (.iload 6, 2) := by decide +kernel
theorem dX2_cardAt_34 : decode cX2_cardAt 34 = .ok (.bipush 42, 2) := by decide +kernel
theorem dX2_cardAt_36 : decode cX2_cardAt 36 = .ok (.if_icmp .ge 30, 3) := by decide +kernel
theorem dX2_cardAt_39 : decode cX2_cardAt 39 = .ok (.lload_n 3, 1) := by decide +kernel
theorem dX2_cardAt_40 : decode cX2_cardAt 40 = .ok (.iload 6, 2) := by decide +kernel
theorem dX2_cardAt_42 : decode cX2_cardAt 42 = .ok (.invokestatic 124, 3) := by decide +kernel
theorem dX2_cardAt_45 : decode cX2_cardAt 45 = .ok (.ifCond .eq 15, 3) := by decide +kernel
theorem dX2_cardAt_48 : decode cX2_cardAt 48 = .ok (.iload 5, 2) := by decide +kernel
theorem dX2_cardAt_50 : decode cX2_cardAt 50 = .ok (.iload_n 2, 1) := by decide +kernel
theorem dX2_cardAt_51 : decode cX2_cardAt 51 = .ok (.if_icmp .ne 6, 3) := by decide +kernel
theorem dX2_cardAt_54 : decode cX2_cardAt 54 = .ok (.iload 6, 2) := by decide +kernel
theorem dX2_cardAt_56 : decode cX2_cardAt 56 = .ok (.ireturn, 1) := by decide +kernel
theorem dX2_cardAt_57 : decode cX2_cardAt 57 = .ok (.iinc 5 1, 3) := by decide +kernel
theorem dX2_cardAt_60 : decode cX2_cardAt 60 = .ok (.iinc 6 1, 3) := by decide +kernel
theorem dX2_cardAt_63 : decode cX2_cardAt 63 = .ok (.goto (-31), 3) := by decide +kernel
theorem dX2_cardAt_66 : decode cX2_cardAt 66 = .ok (.new 113, 3) := by decide +kernel
theorem dX2_cardAt_69 : decode cX2_cardAt 69 = .ok (.dup, 1) := by decide +kernel
theorem dX2_cardAt_70 : decode cX2_cardAt 70 = .ok (.ldc 128, 2) := by decide +kernel
theorem dX2_cardAt_72 : decode cX2_cardAt 72 = .ok (.invokespecial 117, 3) := by decide +kernel
theorem dX2_cardAt_75 : decode cX2_cardAt 75 = .ok (.athrow, 1) := by decide +kernel
set_option maxRecDepth 20000 in
theorem ggX2_placeOf_X2_isCard : GoodIn wsX2_placeOf wsX2_isCard := goodIn_r _ [12] (by decide +kernel) (by decide +kernel)
set_option maxRecDepth 20000 in
theorem gX2_placeOf_X2_isCard : GoodIn wsX2_placeOf (va_wsS RX2 68 yX2_isCard wsX2_isCard) := goodIn_app (goodIn_of _ (by decide +kernel)) ggX2_placeOf_X2_isCard
set_option maxRecDepth 20000 in
theorem ggX2_placeOf_X2_has : GoodIn wsX2_placeOf wsX2_has := goodIn_r _ [15] (by decide +kernel) (by decide +kernel)
set_option maxRecDepth 20000 in
theorem gX2_placeOf_X2_has : GoodIn wsX2_placeOf (va_wsS RX2 124 yX2_has wsX2_has) := goodIn_app (goodIn_of _ (by decide +kernel)) ggX2_placeOf_X2_has
theorem dX2_placeOf_0 : decode cX2_placeOf 0 = .ok (.iload_n 1, 1) := by decide +kernel
theorem dX2_placeOf_1 : decode cX2_placeOf 1 = .ok (.invokestatic 68, 3) := by decide +kernel
theorem dX2_placeOf_4 : decode cX2_placeOf 4 = .ok (.ifCond .ne 13, 3) := by decide +kernel
theorem dX2_placeOf_7 : decode cX2_placeOf 7 = .ok (.new 71, 3) := by decide +kernel
theorem dX2_placeOf_10 : decode cX2_placeOf 10 = .ok (.dup, 1) := by decide +kernel
theorem dX2_placeOf_11 : decode cX2_placeOf 11 = .ok (.ldc 73, 2) := by decide +kernel
theorem dX2_placeOf_13 : decode cX2_placeOf 13 = .ok (.invokespecial 75, 3) := by decide +kernel
theorem dX2_placeOf_16 : decode cX2_placeOf 16 = .ok (.athrow, 1) := by decide +kernel
theorem dX2_placeOf_17 : decode cX2_placeOf 17 = .ok (.aload_n 0, 1) := by decide +kernel
theorem dX2_placeOf_18 : decode cX2_placeOf 18 = .ok (.getfield 27, 3) := by decide +kernel
theorem dX2_placeOf_21 : decode cX2_placeOf 21 = .ok (.iconst (-1), 1) := by decide +kernel
theorem dX2_placeOf_22 : decode cX2_placeOf 22 = .ok (.if_icmp .ne 5, 3) := by decide +kernel
theorem dX2_placeOf_25 : decode cX2_placeOf 25 = .ok (.iconst (-1), 1) := by decide +kernel
theorem dX2_placeOf_26 : decode cX2_placeOf 26 = .ok (.ireturn, 1) := by decide +kernel
theorem dX2_placeOf_27 : decode cX2_placeOf 27 = .ok (.aload_n 0, 1) := by decide +kernel
theorem dX2_placeOf_28 : decode cX2_placeOf 28 = .ok (.getfield 16, 3) := by decide +kernel
theorem dX2_placeOf_31 : decode cX2_placeOf 31 = .ok (.getfield 91, 3) := by decide +kernel
theorem dX2_placeOf_34 : decode cX2_placeOf 34 = .ok (.iload_n 1, 1) := by decide +kernel
theorem dX2_placeOf_35 : decode cX2_placeOf 35 = .ok (.invokestatic 124, 3) := by decide +kernel
theorem dX2_placeOf_38 : decode cX2_placeOf 38 = .ok (.ifCond .eq 5, 3) := by decide +kernel
theorem dX2_placeOf_41 : decode cX2_placeOf 41 = .ok (.iconst 0, 1) := by decide +kernel
theorem dX2_placeOf_42 : decode cX2_placeOf 42 = .ok (.ireturn, 1) := by decide +kernel
theorem dX2_placeOf_43 : decode cX2_placeOf 43 = .ok (.aload_n 0, 1) := by decide +kernel
theorem dX2_placeOf_44 : decode cX2_placeOf 44 = .ok (.getfield 20, 3) := by decide +kernel
theorem dX2_placeOf_47 : decode cX2_placeOf 47 = .ok (.getfield 91, 3) := by decide +kernel
theorem dX2_placeOf_50 : decode cX2_placeOf 50 = .ok (.iload_n 1, 1) := by decide +kernel
theorem dX2_placeOf_51 : decode cX2_placeOf 51 = .ok (.invokestatic 124, 3) := by decide +kernel
theorem dX2_placeOf_54 : decode cX2_placeOf 54 = .ok (.ifCond .eq 5, 3) := by decide +kernel
theorem dX2_placeOf_57 : decode cX2_placeOf 57 = .ok (.iconst 1, 1) := by decide +kernel
theorem dX2_placeOf_58 : decode cX2_placeOf 58 = .ok (.ireturn, 1) := by decide +kernel
theorem dX2_placeOf_59 : decode cX2_placeOf 59 = .ok (.aload_n 0, 1) := by decide +kernel
theorem dX2_placeOf_60 : decode cX2_placeOf 60 = .ok (.getfield 16, 3) := by decide +kernel
theorem dX2_placeOf_63 : decode cX2_placeOf 63 = .ok (.getfield 130, 3) := by decide +kernel
theorem dX2_placeOf_66 : decode cX2_placeOf 66 = .ok (.iload_n 1, 1) := by decide +kernel
theorem dX2_placeOf_67 : decode cX2_placeOf 67 = .ok (.invokestatic 124, 3) := by decide +kernel
theorem dX2_placeOf_70 : decode cX2_placeOf 70 = .ok (.ifCond .eq 5, 3) := by decide +kernel
theorem dX2_placeOf_73 : decode cX2_placeOf 73 = .ok (.iconst 4, 1) := by decide +kernel
theorem dX2_placeOf_74 : decode cX2_placeOf 74 = .ok (.ireturn, 1) := by decide +kernel
theorem dX2_placeOf_75 : decode cX2_placeOf 75 = .ok (.aload_n 0, 1) := by decide +kernel
theorem dX2_placeOf_76 : decode cX2_placeOf 76 = .ok (.getfield 20, 3) := by decide +kernel
theorem dX2_placeOf_79 : decode cX2_placeOf 79 = .ok (.getfield 130, 3) := by decide +kernel
theorem dX2_placeOf_82 : decode cX2_placeOf 82 = .ok (.iload_n 1, 1) := by decide +kernel
theorem dX2_placeOf_83 : decode cX2_placeOf 83 = .ok (.invokestatic 124, 3) := by decide +kernel
theorem dX2_placeOf_86 : decode cX2_placeOf 86 = .ok (.ifCond .eq 5, 3) := by decide +kernel
theorem dX2_placeOf_89 : decode cX2_placeOf 89 = .ok (.iconst 5, 1) := by decide +kernel
theorem dX2_placeOf_90 : decode cX2_placeOf 90 = .ok (.ireturn, 1) := by decide +kernel
theorem dX2_placeOf_91 : decode cX2_placeOf 91 = .ok (.iload_n 1, 1) := by decide +kernel
theorem dX2_placeOf_92 : decode cX2_placeOf 92 = .ok (.aload_n 0, 1) := by decide +kernel
theorem dX2_placeOf_93 : decode cX2_placeOf 93 = .ok (.getfield 30, 3) := by decide +kernel
theorem dX2_placeOf_96 : decode cX2_placeOf 96 = .ok (.if_icmp .ne 7, 3) := by decide +kernel
theorem dX2_placeOf_99 : decode cX2_placeOf 99 = .ok (.iconst 3, 1) := by decide +kernel
theorem dX2_placeOf_100 : decode cX2_placeOf 100 = .ok (.goto 4, 3) := by decide +kernel
theorem dX2_placeOf_103 : decode cX2_placeOf 103 = .ok (.iconst 2, 1) := by decide +kernel
theorem dX2_placeOf_104 : decode cX2_placeOf 104 = .ok (.ireturn, 1) := by decide +kernel
set_option maxRecDepth 20000 in
theorem ggX2_points_X2_isArchivist : GoodIn wsX2_points wsX2_isArchivist := goodIn_r _ [7] (by decide +kernel) (by decide +kernel)
set_option maxRecDepth 20000 in
theorem gX2_points_X2_isArchivist : GoodIn wsX2_points (va_wsS RX2 110 yX2_isArchivist wsX2_isArchivist) := goodIn_app (goodIn_of _ (by decide +kernel)) ggX2_points_X2_isArchivist
set_option maxRecDepth 20000 in
theorem ggX2_points_X2_archivist : GoodIn wsX2_points wsX2_archivist := goodIn_r _ [11, 12, 13, 19, 20, 21, 22, 23, 24, 25, 26, 27, 28, 29] (by decide +kernel) (by decide +kernel)
set_option maxRecDepth 20000 in
theorem gX2_points_X2_archivist : GoodIn wsX2_points (wsV RX2 87 RX2 yX2_archivist wsX2_archivist) := goodIn_app (goodIn_of _ (by decide +kernel)) ggX2_points_X2_archivist
theorem dX2_points_0 : decode cX2_points 0 = .ok (.iload_n 1, 1) := by decide +kernel
theorem dX2_points_1 : decode cX2_points 1 = .ok (.invokestatic 110, 3) := by decide +kernel
theorem dX2_points_4 : decode cX2_points 4 = .ok (.ifCond .ne 13, 3) := by decide +kernel
theorem dX2_points_7 : decode cX2_points 7 = .ok (.new 113, 3) := by decide +kernel
theorem dX2_points_10 : decode cX2_points 10 = .ok (.dup, 1) := by decide +kernel
theorem dX2_points_11 : decode cX2_points 11 = .ok (.ldc 115, 2) := by decide +kernel
theorem dX2_points_13 : decode cX2_points 13 = .ok (.invokespecial 117, 3) := by decide +kernel
theorem dX2_points_16 : decode cX2_points 16 = .ok (.athrow, 1) := by decide +kernel
theorem dX2_points_17 : decode cX2_points 17 = .ok (.aload_n 0, 1) := by decide +kernel
theorem dX2_points_18 : decode cX2_points 18 = .ok (.iload_n 1, 1) := by decide +kernel
theorem dX2_points_19 : decode cX2_points 19 = .ok (.invokevirtual 87, 3) := by decide +kernel
theorem dX2_points_22 : decode cX2_points 22 = .ok (.getfield 133, 3) := by decide +kernel
theorem dX2_points_25 : decode cX2_points 25 = .ok (.ireturn, 1) := by decide +kernel
set_option maxRecDepth 20000 in
theorem ggX2_tricks_X2_isArchivist : GoodIn wsX2_tricks wsX2_isArchivist := goodIn_r _ [7] (by decide +kernel) (by decide +kernel)
set_option maxRecDepth 20000 in
theorem gX2_tricks_X2_isArchivist : GoodIn wsX2_tricks (va_wsS RX2 110 yX2_isArchivist wsX2_isArchivist) := goodIn_app (goodIn_of _ (by decide +kernel)) ggX2_tricks_X2_isArchivist
set_option maxRecDepth 20000 in
theorem ggX2_tricks_X2_archivist : GoodIn wsX2_tricks wsX2_archivist := goodIn_r _ [11, 12, 13, 19, 20, 21, 22, 23, 24, 25, 26, 27, 28, 29] (by decide +kernel) (by decide +kernel)
set_option maxRecDepth 20000 in
theorem gX2_tricks_X2_archivist : GoodIn wsX2_tricks (wsV RX2 87 RX2 yX2_archivist wsX2_archivist) := goodIn_app (goodIn_of _ (by decide +kernel)) ggX2_tricks_X2_archivist
theorem dX2_tricks_0 : decode cX2_tricks 0 = .ok (.iload_n 1, 1) := by decide +kernel
theorem dX2_tricks_1 : decode cX2_tricks 1 = .ok (.invokestatic 110, 3) := by decide +kernel
theorem dX2_tricks_4 : decode cX2_tricks 4 = .ok (.ifCond .ne 13, 3) := by decide +kernel
theorem dX2_tricks_7 : decode cX2_tricks 7 = .ok (.new 113, 3) := by decide +kernel
theorem dX2_tricks_10 : decode cX2_tricks 10 = .ok (.dup, 1) := by decide +kernel
theorem dX2_tricks_11 : decode cX2_tricks 11 = .ok (.ldc 115, 2) := by decide +kernel
theorem dX2_tricks_13 : decode cX2_tricks 13 = .ok (.invokespecial 117, 3) := by decide +kernel
theorem dX2_tricks_16 : decode cX2_tricks 16 = .ok (.athrow, 1) := by decide +kernel
theorem dX2_tricks_17 : decode cX2_tricks 17 = .ok (.aload_n 0, 1) := by decide +kernel
theorem dX2_tricks_18 : decode cX2_tricks 18 = .ok (.iload_n 1, 1) := by decide +kernel
theorem dX2_tricks_19 : decode cX2_tricks 19 = .ok (.invokevirtual 87, 3) := by decide +kernel
theorem dX2_tricks_22 : decode cX2_tricks 22 = .ok (.getfield 136, 3) := by decide +kernel
theorem dX2_tricks_25 : decode cX2_tricks 25 = .ok (.ireturn, 1) := by decide +kernel
set_option maxRecDepth 20000 in
theorem ggX2_gloves_X2_isArchivist : GoodIn wsX2_gloves wsX2_isArchivist := goodIn_r _ [7] (by decide +kernel) (by decide +kernel)
set_option maxRecDepth 20000 in
theorem gX2_gloves_X2_isArchivist : GoodIn wsX2_gloves (va_wsS RX2 110 yX2_isArchivist wsX2_isArchivist) := goodIn_app (goodIn_of _ (by decide +kernel)) ggX2_gloves_X2_isArchivist
set_option maxRecDepth 20000 in
theorem ggX2_gloves_X2_archivist : GoodIn wsX2_gloves wsX2_archivist := goodIn_r _ [11, 12, 13, 19, 20, 21, 22, 23, 24, 25, 26, 27, 28, 29] (by decide +kernel) (by decide +kernel)
set_option maxRecDepth 20000 in
theorem gX2_gloves_X2_archivist : GoodIn wsX2_gloves (wsV RX2 87 RX2 yX2_archivist wsX2_archivist) := goodIn_app (goodIn_of _ (by decide +kernel)) ggX2_gloves_X2_archivist
theorem dX2_gloves_0 : decode cX2_gloves 0 = .ok (.iload_n 1, 1) := by decide +kernel
theorem dX2_gloves_1 : decode cX2_gloves 1 = .ok (.invokestatic 110, 3) := by decide +kernel
theorem dX2_gloves_4 : decode cX2_gloves 4 = .ok (.ifCond .ne 13, 3) := by decide +kernel
theorem dX2_gloves_7 : decode cX2_gloves 7 = .ok (.new 113, 3) := by decide +kernel
theorem dX2_gloves_10 : decode cX2_gloves 10 = .ok (.dup, 1) := by decide +kernel
theorem dX2_gloves_11 : decode cX2_gloves 11 = .ok (.ldc 115, 2) := by decide +kernel
theorem dX2_gloves_13 : decode cX2_gloves 13 = .ok (.invokespecial 117, 3) := by decide +kernel
theorem dX2_gloves_16 : decode cX2_gloves 16 = .ok (.athrow, 1) := by decide +kernel
theorem dX2_gloves_17 : decode cX2_gloves 17 = .ok (.aload_n 0, 1) := by decide +kernel
theorem dX2_gloves_18 : decode cX2_gloves 18 = .ok (.iload_n 1, 1) := by decide +kernel
theorem dX2_gloves_19 : decode cX2_gloves 19 = .ok (.invokevirtual 87, 3) := by decide +kernel
theorem dX2_gloves_22 : decode cX2_gloves 22 = .ok (.getfield 105, 3) := by decide +kernel
theorem dX2_gloves_25 : decode cX2_gloves 25 = .ok (.ireturn, 1) := by decide +kernel
set_option maxRecDepth 20000 in
theorem ggX2_choices_X2_reasonAgainst : GoodIn wsX2_choices wsX2_reasonAgainst := goodIn_r _ [5, 6, 7, 8, 9, 10, 11, 12, 4, 13, 14, 15, 16, 17, 18, 19, 20, 21, 22, 23, 24, 25, 26, 27, 28, 29, 30, 31, 32, 33, 34, 35, 36, 37, 38, 39, 40, 41, 42, 43, 44, 45, 46, 47, 48, 49, 50, 51, 52, 53] (by decide +kernel) (by decide +kernel)
set_option maxRecDepth 20000 in
theorem gX2_choices_X2_reasonAgainst : GoodIn wsX2_choices (wsV RX2 78 RX2 yX2_reasonAgainst wsX2_reasonAgainst) := goodIn_app (goodIn_of _ (by decide +kernel)) ggX2_choices_X2_reasonAgainst
theorem dX2_choices_0 : decode cX2_choices 0 = .ok (.iconst 0, 1) := by decide +kernel
theorem dX2_choices_1 : decode cX2_choices 1 = .ok (.istore_n 1, 1) := by decide +kernel
theorem dX2_choices_2 : decode cX2_choices 2 = .ok (.iconst 0, 1) := by decide +kernel
theorem dX2_choices_3 : decode cX2_choices 3 = .ok (.istore_n 2, 1) := by decide +kernel
theorem dX2_choices_4 : decode cX2_choices 4 = .ok (.iload_n 2, 1) := by decide +kernel
theorem dX2_choices_5 : decode cX2_choices 5 = .ok (.bipush 42, 2) := by decide +kernel
theorem dX2_choices_7 : decode cX2_choices 7 = .ok (.if_icmp .ge 20, 3) := by decide +kernel
theorem dX2_choices_10 : decode cX2_choices 10 = .ok (.aload_n 0, 1) := by decide +kernel
theorem dX2_choices_11 : decode cX2_choices 11 = .ok (.iload_n 2, 1) := by decide +kernel
theorem dX2_choices_12 : decode cX2_choices 12 = .ok (.invokevirtual 78, 3) := by decide +kernel
theorem dX2_choices_15 : decode cX2_choices 15 = .ok (.ifCond .ne 6, 3) := by decide +kernel
theorem dX2_choices_18 : decode cX2_choices 18 = .ok (.iinc 1 1, 3) := by decide +kernel
theorem dX2_choices_21 : decode cX2_choices 21 = .ok (.iinc 2 1, 3) := by decide +kernel
theorem dX2_choices_24 : decode cX2_choices 24 = .ok (.goto (-20), 3) := by decide +kernel
theorem dX2_choices_27 : decode cX2_choices 27 = .ok (.iload_n 1, 1) := by decide +kernel
theorem dX2_choices_28 : decode cX2_choices 28 = .ok (.ireturn, 1) := by decide +kernel
set_option maxRecDepth 20000 in
theorem ggX2_wouldTake_X2_isCard : GoodIn wsX2_wouldTake wsX2_isCard := goodIn_r _ [9] (by decide +kernel) (by decide +kernel)
set_option maxRecDepth 20000 in
theorem gX2_wouldTake_X2_isCard : GoodIn wsX2_wouldTake (va_wsS RX2 68 yX2_isCard wsX2_isCard) := goodIn_app (goodIn_of _ (by decide +kernel)) ggX2_wouldTake_X2_isCard
set_option maxRecDepth 20000 in
theorem ggX2_wouldTake_X2_takerBy : GoodIn wsX2_wouldTake wsX2_takerBy := goodIn_r _ [13, 5, 14, 15, 16, 17, 8, 18, 19, 20, 21, 22, 23, 24, 25, 26, 27, 28, 29, 30, 31, 32] (by decide +kernel) (by decide +kernel)
set_option maxRecDepth 20000 in
theorem gX2_wouldTake_X2_takerBy : GoodIn wsX2_wouldTake (wsV RX2 141 RX2 yX2_takerBy wsX2_takerBy) := goodIn_app (goodIn_of _ (by decide +kernel)) ggX2_wouldTake_X2_takerBy
theorem dX2_wouldTake_0 : decode cX2_wouldTake 0 = .ok (.iload_n 1, 1) := by decide +kernel
theorem dX2_wouldTake_1 : decode cX2_wouldTake 1 = .ok (.invokestatic 68, 3) := by decide +kernel
theorem dX2_wouldTake_4 : decode cX2_wouldTake 4 = .ok (.ifCond .ne 13, 3) := by decide +kernel
theorem dX2_wouldTake_7 : decode cX2_wouldTake 7 = .ok (.new 71, 3) := by decide +kernel
theorem dX2_wouldTake_10 : decode cX2_wouldTake 10 = .ok (.dup, 1) := by decide +kernel
theorem dX2_wouldTake_11 : decode cX2_wouldTake 11 = .ok (.ldc 73, 2) := by decide +kernel
theorem dX2_wouldTake_13 : decode cX2_wouldTake 13 = .ok (.invokespecial 75, 3) := by decide +kernel
theorem dX2_wouldTake_16 : decode cX2_wouldTake 16 = .ok (.athrow, 1) := by decide +kernel
theorem dX2_wouldTake_17 : decode cX2_wouldTake 17 = .ok (.aload_n 0, 1) := by decide +kernel
theorem dX2_wouldTake_18 : decode cX2_wouldTake 18 = .ok (.getfield 30, 3) := by decide +kernel
theorem dX2_wouldTake_21 : decode cX2_wouldTake 21 = .ok (.iconst (-1), 1) := by decide +kernel
theorem dX2_wouldTake_22 : decode cX2_wouldTake 22 = .ok (.if_icmp .eq 11, 3) := by decide +kernel
theorem dX2_wouldTake_25 : decode cX2_wouldTake 25 = .ok (.aload_n 0, 1) := by decide +kernel
theorem dX2_wouldTake_26 : decode cX2_wouldTake 26 = .ok (.getfield 30, 3) := by decide +kernel
theorem dX2_wouldTake_29 : decode cX2_wouldTake 29 = .ok (.iload_n 1, 1) := by decide +kernel
theorem dX2_wouldTake_30 : decode cX2_wouldTake 30 = .ok (.if_icmp .ne 13, 3) := by decide +kernel
theorem dX2_wouldTake_33 : decode cX2_wouldTake 33 = .ok (.new 82, 3) := by decide +kernel
theorem dX2_wouldTake_36 : decode cX2_wouldTake 36 = .ok (.dup, 1) := by decide +kernel
theorem dX2_wouldTake_37 : decode cX2_wouldTake 37 = .ok (.ldc 139, 2) := by decide +kernel
theorem dX2_wouldTake_39 : decode cX2_wouldTake 39 = .ok (.invokespecial 86, 3) := by decide +kernel
theorem dX2_wouldTake_42 : decode cX2_wouldTake 42 = .ok (.athrow, 1) := by decide +kernel
theorem dX2_wouldTake_43 : decode cX2_wouldTake 43 = .ok (.aload_n 0, 1) := by decide +kernel
theorem dX2_wouldTake_44 : decode cX2_wouldTake 44 = .ok (.iload_n 1, 1) := by decide +kernel
theorem dX2_wouldTake_45 : decode cX2_wouldTake 45 = .ok (.invokevirtual 141, 3) := by decide +kernel
theorem dX2_wouldTake_48 : decode cX2_wouldTake 48 = .ok (.ireturn, 1) := by decide +kernel
theorem dX2_wonByFirst_0 : decode cX2_wonByFirst 0 = .ok (.aload_n 0, 1) := by decide +kernel
theorem dX2_wonByFirst_1 : decode cX2_wonByFirst 1 = .ok (.getfield 36, 3) := by decide +kernel
theorem dX2_wonByFirst_4 : decode cX2_wonByFirst 4 = .ok (.ireturn, 1) := by decide +kernel
theorem dX2_wonBySecond_0 : decode cX2_wonBySecond 0 = .ok (.aload_n 0, 1) := by decide +kernel
theorem dX2_wonBySecond_1 : decode cX2_wonBySecond 1 = .ok (.getfield 39, 3) := by decide +kernel
theorem dX2_wonBySecond_4 : decode cX2_wonBySecond 4 = .ok (.ireturn, 1) := by decide +kernel
set_option maxRecDepth 20000 in
theorem ggX2_shuffle_X2_exchange : GoodIn wsX2_shuffle wsX2_exchange := goodIn_r _ [8, 1, 9, 10, 11, 12, 13, 14, 15, 16, 17, 18, 19] (by decide +kernel) (by decide +kernel)
set_option maxRecDepth 20000 in
theorem gX2_shuffle_X2_exchange : GoodIn wsX2_shuffle (wsV RX2 178 RX2 yX2_exchange wsX2_exchange) := goodIn_app (goodIn_of _ (by decide +kernel)) ggX2_shuffle_X2_exchange
theorem dX2_shuffle_0 : decode cX2_shuffle 0 = .ok (.iconst 0, 1) := by decide +kernel
theorem dX2_shuffle_1 : decode cX2_shuffle 1 = .ok (.istore_n 3, 1) := by decide +kernel
theorem dX2_shuffle_2 : decode cX2_shuffle 2 = .ok (.iload_n 3, 1) := by decide +kernel
theorem dX2_shuffle_3 : decode cX2_shuffle 3 = .ok (.bipush 42, 2) := by decide +kernel
theorem dX2_shuffle_5 : decode cX2_shuffle 5 = .ok (.if_icmp .ge 16, 3) := by decide +kernel
theorem dX2_shuffle_8 : decode cX2_shuffle 8 = .ok (.aload_n 0, 1) := by decide +kernel
theorem dX2_shuffle_9 : decode cX2_shuffle 9 = .ok (.getfield 9, 3) := by decide +kernel
theorem dX2_shuffle_12 : decode cX2_shuffle 12 = .ok (.iload_n 3, 1) := by decide +kernel
theorem dX2_shuffle_13 : decode cX2_shuffle 13 = .ok (.iload_n 3, 1) := by decide +kernel
theorem dX2_shuffle_14 : decode cX2_shuffle 14 = .ok (.iastore, 1) := by decide +kernel
theorem dX2_shuffle_15 : decode cX2_shuffle 15 = .ok (.iinc 3 1, 3) := by decide +kernel
theorem dX2_shuffle_18 : decode cX2_shuffle 18 = .ok (.goto (-16), 3) := by decide +kernel
theorem dX2_shuffle_21 : decode cX2_shuffle 21 = .ok (.lload_n 1, 1) := by decide +kernel
theorem dX2_shuffle_22 : decode cX2_shuffle 22 = .ok (.lstore_n 3, 1) := by decide +kernel
theorem dX2_shuffle_23 : decode cX2_shuffle 23 = .ok (.bipush 41, 2) := by decide +kernel
theorem dX2_shuffle_25 : decode cX2_shuffle 25 = .ok (.istore 5, 2) := by decide +kernel
theorem dX2_shuffle_27 : decode cX2_shuffle 27 = .ok (.iload 5, 2) := by decide +kernel
theorem dX2_shuffle_29 : decode cX2_shuffle 29 = .ok (.iconst 1, 1) := by decide +kernel
theorem dX2_shuffle_30 : decode cX2_shuffle 30 = .ok (.if_icmp .lt 36, 3) := by decide +kernel
theorem dX2_shuffle_33 : decode cX2_shuffle 33 = .ok (.lload_n 3, 1) := by decide +kernel
theorem dX2_shuffle_34 : decode cX2_shuffle 34 = .ok (.ldc2_w 174, 3) := by decide +kernel
theorem dX2_shuffle_37 : decode cX2_shuffle 37 = .ok (.lmul, 1) := by decide +kernel
theorem dX2_shuffle_38 : decode cX2_shuffle 38 = .ok (.ldc2_w 176, 3) := by decide +kernel
theorem dX2_shuffle_41 : decode cX2_shuffle 41 = .ok (.ladd, 1) := by decide +kernel
theorem dX2_shuffle_42 : decode cX2_shuffle 42 = .ok (.lstore_n 3, 1) := by decide +kernel
theorem dX2_shuffle_43 : decode cX2_shuffle 43 = .ok (.aload_n 0, 1) := by decide +kernel
theorem dX2_shuffle_44 : decode cX2_shuffle 44 = .ok (.iload 5, 2) := by decide +kernel
theorem dX2_shuffle_46 : decode cX2_shuffle 46 = .ok (.lload_n 3, 1) := by decide +kernel
theorem dX2_shuffle_47 : decode cX2_shuffle 47 = .ok (.bipush 33, 2) := by decide +kernel
theorem dX2_shuffle_49 : decode cX2_shuffle 49 = .ok (.lushr, 1) := by decide +kernel
theorem dX2_shuffle_50 : decode cX2_shuffle 50 = .ok (.iload 5, 2) := by decide +kernel
theorem dX2_shuffle_52 : decode cX2_shuffle 52 = .ok (.iconst 1, 1) := by decide +kernel
theorem dX2_shuffle_53 : decode cX2_shuffle 53 = .ok (.iadd, 1) := by decide +kernel
theorem dX2_shuffle_54 : decode cX2_shuffle 54 = .ok (.i2l, 1) := by decide +kernel
theorem dX2_shuffle_55 : decode cX2_shuffle 55 = .ok (.lrem, 1) := by decide +kernel
theorem dX2_shuffle_56 : decode cX2_shuffle 56 = .ok (.l2i, 1) := by decide +kernel
theorem dX2_shuffle_57 : decode cX2_shuffle 57 = .ok (.invokevirtual 178, 3) := by decide +kernel
theorem dX2_shuffle_60 : decode cX2_shuffle 60 = .ok (.iinc 5 (-1), 3) := by decide +kernel
theorem dX2_shuffle_63 : decode cX2_shuffle 63 = .ok (.goto (-36), 3) := by decide +kernel
theorem dX2_shuffle_66 : decode cX2_shuffle 66 = .ok (.return_, 1) := by decide +kernel
theorem dX2_exchange_0 : decode cX2_exchange 0 = .ok (.iload_n 1, 1) := by decide +kernel
theorem dX2_exchange_1 : decode cX2_exchange 1 = .ok (.ifCond .lt 45, 3) := by decide +kernel
theorem dX2_exchange_4 : decode cX2_exchange 4 = .ok (.iload_n 1, 1) := by decide +kernel
theorem dX2_exchange_5 : decode cX2_exchange 5 = .ok (.bipush 42, 2) := by decide +kernel
theorem dX2_exchange_7 : decode cX2_exchange 7 = .ok (.if_icmp .ge 39, 3) := by decide +kernel
theorem dX2_exchange_10 : decode cX2_exchange 10 = .ok (.iload_n 2, 1) := by decide +kernel
theorem dX2_exchange_11 : decode cX2_exchange 11 = .ok (.ifCond .lt 35, 3) := by decide +kernel
theorem dX2_exchange_14 : decode cX2_exchange 14 = .ok (.iload_n 2, 1) := by decide +kernel
theorem dX2_exchange_15 : decode cX2_exchange 15 = .ok (.bipush 42, 2) := by decide +kernel
theorem dX2_exchange_17 : decode cX2_exchange 17 = .ok (.if_icmp .ge 29, 3) := by decide +kernel
theorem dX2_exchange_20 : decode cX2_exchange 20 = .ok (.aload_n 0, 1) := by decide +kernel
theorem dX2_exchange_21 : decode cX2_exchange 21 = .ok (.getfield 9, 3) := by decide +kernel
theorem dX2_exchange_24 : decode cX2_exchange 24 = .ok (.iload_n 1, 1) := by decide +kernel
theorem dX2_exchange_25 : decode cX2_exchange 25 = .ok (.iaload, 1) := by decide +kernel
theorem dX2_exchange_26 : decode cX2_exchange 26 = .ok (.istore_n 3, 1) := by decide +kernel
theorem dX2_exchange_27 : decode cX2_exchange 27 = .ok (.aload_n 0, 1) := by decide +kernel
theorem dX2_exchange_28 : decode cX2_exchange 28 = .ok (.getfield 9, 3) := by decide +kernel
theorem dX2_exchange_31 : decode cX2_exchange 31 = .ok (.iload_n 1, 1) := by decide +kernel
theorem dX2_exchange_32 : decode cX2_exchange 32 = .ok (.aload_n 0, 1) := by decide +kernel
theorem dX2_exchange_33 : decode cX2_exchange 33 = .ok (.getfield 9, 3) := by decide +kernel
theorem dX2_exchange_36 : decode cX2_exchange 36 = .ok (.iload_n 2, 1) := by decide +kernel
theorem dX2_exchange_37 : decode cX2_exchange 37 = .ok (.iaload, 1) := by decide +kernel
theorem dX2_exchange_38 : decode cX2_exchange 38 = .ok (.iastore, 1) := by decide +kernel
theorem dX2_exchange_39 : decode cX2_exchange 39 = .ok (.aload_n 0, 1) := by decide +kernel
theorem dX2_exchange_40 : decode cX2_exchange 40 = .ok (.getfield 9, 3) := by decide +kernel
theorem dX2_exchange_43 : decode cX2_exchange 43 = .ok (.iload_n 2, 1) := by decide +kernel
theorem dX2_exchange_44 : decode cX2_exchange 44 = .ok (.iload_n 3, 1) := by decide +kernel
theorem dX2_exchange_45 : decode cX2_exchange 45 = .ok (.iastore, 1) := by decide +kernel
theorem dX2_exchange_46 : decode cX2_exchange 46 = .ok (.return_, 1) := by decide +kernel
theorem dX2_putTurnedUpLast_0 : decode cX2_putTurnedUpLast 0 = .ok (.aload_n 0, 1) := by decide +kernel
theorem dX2_putTurnedUpLast_1 : decode cX2_putTurnedUpLast 1 = .ok (.getfield 9, 3) := by decide +kernel
theorem dX2_putTurnedUpLast_4 : decode cX2_putTurnedUpLast 4 = .ok (.bipush 12, 2) := by decide +kernel
theorem dX2_putTurnedUpLast_6 : decode cX2_putTurnedUpLast 6 = .ok (.iaload, 1) := by decide +kernel
theorem dX2_putTurnedUpLast_7 : decode cX2_putTurnedUpLast 7 = .ok (.istore_n 1, 1) := by decide +kernel
theorem dX2_putTurnedUpLast_8 : decode cX2_putTurnedUpLast 8 = .ok (.aload_n 0, 1) := by decide +kernel
theorem dX2_putTurnedUpLast_9 : decode cX2_putTurnedUpLast 9 = .ok (.getfield 9, 3) := by decide +kernel
theorem dX2_putTurnedUpLast_12 : decode cX2_putTurnedUpLast 12 = .ok (.bipush 13, 2) := by decide +kernel
theorem dX2_putTurnedUpLast_14 : decode cX2_putTurnedUpLast 14 = .ok (.aload_n 0, 1) := by decide +kernel
theorem dX2_putTurnedUpLast_15 : decode cX2_putTurnedUpLast 15 = .ok (.getfield 9, 3) := by decide +kernel
theorem dX2_putTurnedUpLast_18 : decode cX2_putTurnedUpLast 18 = .ok (.bipush 12, 2) := by decide +kernel
theorem dX2_putTurnedUpLast_20 : decode cX2_putTurnedUpLast 20 = .ok (.bipush 29, 2) := by decide +kernel
theorem dX2_putTurnedUpLast_22 : decode cX2_putTurnedUpLast 22 = .ok (.invokestatic 182, 3) := by decide +kernel
theorem dX2_putTurnedUpLast_25 : decode cX2_putTurnedUpLast 25 = .ok (.aload_n 0, 1) := by decide +kernel
theorem dX2_putTurnedUpLast_26 : decode cX2_putTurnedUpLast 26 = .ok (.getfield 9, 3) := by decide +kernel
theorem dX2_putTurnedUpLast_29 : decode cX2_putTurnedUpLast 29 = .ok (.bipush 41, 2) := by decide +kernel
theorem dX2_putTurnedUpLast_31 : decode cX2_putTurnedUpLast 31 = .ok (.iload_n 1, 1) := by decide +kernel
theorem dX2_putTurnedUpLast_32 : decode cX2_putTurnedUpLast 32 = .ok (.iastore, 1) := by decide +kernel
theorem dX2_putTurnedUpLast_33 : decode cX2_putTurnedUpLast 33 = .ok (.return_, 1) := by decide +kernel
set_option maxRecDepth 20000 in
theorem ggX2_handFrom_X2_bit : GoodIn wsX2_handFrom wsX2_bit := goodIn_r _ [5] (by decide +kernel) (by decide +kernel)
set_option maxRecDepth 20000 in
theorem gX2_handFrom_X2_bit : GoodIn wsX2_handFrom (va_wsS RX2 95 yX2_bit wsX2_bit) := goodIn_app (goodIn_of _ (by decide +kernel)) ggX2_handFrom_X2_bit
theorem dX2_handFrom_0 : decode cX2_handFrom 0 = .ok (.lconst 0, 1) := by decide +kernel
theorem dX2_handFrom_1 : decode cX2_handFrom 1 = .ok (.lstore_n 2, 1) := by decide +kernel
theorem dX2_handFrom_2 : decode cX2_handFrom 2 = .ok (.iconst 0, 1) := by decide +kernel
theorem dX2_handFrom_3 : decode cX2_handFrom 3 = .ok (.istore 4, 2) := by decide +kernel
theorem dX2_handFrom_5 : decode cX2_handFrom 5 = .ok (.iload 4, 2) := by decide +kernel
theorem dX2_handFrom_7 : decode cX2_handFrom 7 = .ok (.bipush 42, 2) := by decide +kernel
theorem dX2_handFrom_9 : decode cX2_handFrom 9 = .ok (.if_icmp .ge 37, 3) := by decide +kernel
theorem dX2_handFrom_12 : decode cX2_handFrom 12 = .ok (.iload 4, 2) := by decide +kernel
theorem dX2_handFrom_14 : decode cX2_handFrom 14 = .ok (.iload_n 1, 1) := by decide +kernel
theorem dX2_handFrom_15 : decode cX2_handFrom 15 = .ok (.if_icmp .lt 25, 3) := by decide +kernel
theorem dX2_handFrom_18 : decode cX2_handFrom 18 = .ok (.iload 4, 2) := by decide +kernel
theorem dX2_handFrom_20 : decode cX2_handFrom 20 = .ok (.iload_n 1, 1) := by decide +kernel
theorem dX2_handFrom_21 : decode cX2_handFrom 21 = .ok (.bipush 6, 2) := by decide +kernel
theorem dX2_handFrom_23 : decode cX2_handFrom 23 = .ok (.iadd, 1) := by decide +kernel
theorem dX2_handFrom_24 : decode cX2_handFrom 24 = .ok (.if_icmp .ge 16, 3) := by decide +kernel
theorem dX2_handFrom_27 : decode cX2_handFrom 27 = .ok (.lload_n 2, 1) := by decide +kernel
theorem dX2_handFrom_28 : decode cX2_handFrom 28 = .ok (.aload_n 0, 1) := by decide +kernel
theorem dX2_handFrom_29 : decode cX2_handFrom 29 = .ok (.getfield 9, 3) := by decide +kernel
theorem dX2_handFrom_32 : decode cX2_handFrom 32 = .ok (.iload 4, 2) := by decide +kernel
theorem dX2_handFrom_34 : decode cX2_handFrom 34 = .ok (.iaload, 1) := by decide +kernel
theorem dX2_handFrom_35 : decode cX2_handFrom 35 = .ok (.invokestatic 95, 3) := by decide +kernel
theorem dX2_handFrom_38 : decode cX2_handFrom 38 = .ok (.lor, 1) := by decide +kernel
theorem dX2_handFrom_39 : decode cX2_handFrom 39 = .ok (.lstore_n 2, 1) := by decide +kernel
theorem dX2_handFrom_40 : decode cX2_handFrom 40 = .ok (.iinc 4 1, 3) := by decide +kernel
theorem dX2_handFrom_43 : decode cX2_handFrom 43 = .ok (.goto (-38), 3) := by decide +kernel
theorem dX2_handFrom_46 : decode cX2_handFrom 46 = .ok (.lload_n 2, 1) := by decide +kernel
theorem dX2_handFrom_47 : decode cX2_handFrom 47 = .ok (.lreturn, 1) := by decide +kernel
set_option maxRecDepth 20000 in
theorem ggX2_drawFor_X2_bit : GoodIn wsX2_drawFor wsX2_bit := goodIn_r _ [7] (by decide +kernel) (by decide +kernel)
set_option maxRecDepth 20000 in
theorem gX2_drawFor_X2_bit : GoodIn wsX2_drawFor (va_wsS RX2 95 yX2_bit wsX2_bit) := goodIn_app (goodIn_of _ (by decide +kernel)) ggX2_drawFor_X2_bit
theorem dX2_drawFor_0 : decode cX2_drawFor 0 = .ok (.aload_n 0, 1) := by decide +kernel
theorem dX2_drawFor_1 : decode cX2_drawFor 1 = .ok (.getfield 23, 3) := by decide +kernel
theorem dX2_drawFor_4 : decode cX2_drawFor 4 = .ok (.ifCond .lt 43, 3) := by decide +kernel
theorem dX2_drawFor_7 : decode cX2_drawFor 7 = .ok (.aload_n 0, 1) := by decide +kernel
theorem dX2_drawFor_8 : decode cX2_drawFor 8 = .ok (.getfield 23, 3) := by decide +kernel
theorem dX2_drawFor_11 : decode cX2_drawFor 11 = .ok (.bipush 42, 2) := by decide +kernel
theorem dX2_drawFor_13 : decode cX2_drawFor 13 = .ok (.if_icmp .ge 34, 3) := by decide +kernel
theorem dX2_drawFor_16 : decode cX2_drawFor 16 = .ok (.aload_n 1, 1) := by decide +kernel
theorem dX2_drawFor_17 : decode cX2_drawFor 17 = .ok (.dup, 1) := by decide +kernel
theorem dX2_drawFor_18 : decode cX2_drawFor 18 = .ok (.getfield 91, 3) := by decide +kernel
theorem dX2_drawFor_21 : decode cX2_drawFor 21 = .ok (.aload_n 0, 1) := by decide +kernel
theorem dX2_drawFor_22 : decode cX2_drawFor 22 = .ok (.getfield 9, 3) := by decide +kernel
theorem dX2_drawFor_25 : decode cX2_drawFor 25 = .ok (.aload_n 0, 1) := by decide +kernel
theorem dX2_drawFor_26 : decode cX2_drawFor 26 = .ok (.getfield 23, 3) := by decide +kernel
theorem dX2_drawFor_29 : decode cX2_drawFor 29 = .ok (.iaload, 1) := by decide +kernel
theorem dX2_drawFor_30 : decode cX2_drawFor 30 = .ok (.invokestatic 95, 3) := by decide +kernel
theorem dX2_drawFor_33 : decode cX2_drawFor 33 = .ok (.lor, 1) := by decide +kernel
theorem dX2_drawFor_34 : decode cX2_drawFor 34 = .ok (.putfield 91, 3) := by decide +kernel
theorem dX2_drawFor_37 : decode cX2_drawFor 37 = .ok (.aload_n 0, 1) := by decide +kernel
theorem dX2_drawFor_38 : decode cX2_drawFor 38 = .ok (.dup, 1) := by decide +kernel
theorem dX2_drawFor_39 : decode cX2_drawFor 39 = .ok (.getfield 23, 3) := by decide +kernel
theorem dX2_drawFor_42 : decode cX2_drawFor 42 = .ok (.iconst 1, 1) := by decide +kernel
theorem dX2_drawFor_43 : decode cX2_drawFor 43 = .ok (.iadd, 1) := by decide +kernel
theorem dX2_drawFor_44 : decode cX2_drawFor 44 = .ok (.putfield 23, 3) := by decide +kernel
theorem dX2_drawFor_47 : decode cX2_drawFor 47 = .ok (.return_, 1) := by decide +kernel
set_option maxRecDepth 20000 in
theorem ggX2_reasonAgainst_X2_moversHand : GoodIn wsX2_reasonAgainst wsX2_moversHand := goodIn_r _ [9, 1, 10, 11, 12, 13, 8, 14, 15, 16, 34, 35, 36, 37, 38, 39, 40, 41, 42, 43, 44, 45, 46, 47, 48, 49] (by decide +kernel) (by decide +kernel)
set_option maxRecDepth 20000 in
theorem gX2_reasonAgainst_X2_moversHand : GoodIn wsX2_reasonAgainst (wsV RX2 154 RX2 yX2_moversHand wsX2_moversHand) := goodIn_app (goodIn_of _ (by decide +kernel)) ggX2_reasonAgainst_X2_moversHand
set_option maxRecDepth 20000 in
theorem ggX2_reasonAgainst_X2_has : GoodIn wsX2_reasonAgainst wsX2_has := goodIn_r _ [19] (by decide +kernel) (by decide +kernel)
set_option maxRecDepth 20000 in
theorem gX2_reasonAgainst_X2_has : GoodIn wsX2_reasonAgainst (va_wsS RX2 124 yX2_has wsX2_has) := goodIn_app (goodIn_of _ (by decide +kernel)) ggX2_reasonAgainst_X2_has
set_option maxRecDepth 20000 in
theorem ggX2_reasonAgainst_X2_reasonAgainstLeading : GoodIn wsX2_reasonAgainst wsX2_reasonAgainstLeading := goodIn_r _ [22, 23, 24, 25, 8, 26] (by decide +kernel) (by decide +kernel)
set_option maxRecDepth 20000 in
theorem gX2_reasonAgainst_X2_reasonAgainstLeading : GoodIn wsX2_reasonAgainst (va_wsS RX2 188 yX2_reasonAgainstLeading wsX2_reasonAgainstLeading) := goodIn_app (goodIn_of _ (by decide +kernel)) ggX2_reasonAgainst_X2_reasonAgainstLeading
set_option maxRecDepth 20000 in
theorem ggX2_reasonAgainst_X2_reasonAgainstReplying : GoodIn wsX2_reasonAgainst wsX2_reasonAgainstReplying := goodIn_r _ [29, 24, 25, 8, 26, 30, 31, 32, 33, 17, 18, 19] (by decide +kernel) (by decide +kernel)
set_option maxRecDepth 20000 in
theorem gX2_reasonAgainst_X2_reasonAgainstReplying : GoodIn wsX2_reasonAgainst (va_wsS RX2 192 yX2_reasonAgainstReplying wsX2_reasonAgainstReplying) := goodIn_app (goodIn_of _ (by decide +kernel)) ggX2_reasonAgainst_X2_reasonAgainstReplying
theorem dX2_reasonAgainst_0 : decode cX2_reasonAgainst 0 = .ok (.aload_n 0, 1) := by decide +kernel
theorem dX2_reasonAgainst_1 : decode cX2_reasonAgainst 1 = .ok (.getfield 33, 3) := by decide +kernel
theorem dX2_reasonAgainst_4 : decode cX2_reasonAgainst 4 = .ok (.iconst (-1), 1) := by decide +kernel
theorem dX2_reasonAgainst_5 : decode cX2_reasonAgainst 5 = .ok (.if_icmp .ne 5, 3) := by decide +kernel
theorem dX2_reasonAgainst_8 : decode cX2_reasonAgainst 8 = .ok (.iconst 1, 1) := by decide +kernel
theorem dX2_reasonAgainst_9 : decode cX2_reasonAgainst 9 = .ok (.ireturn, 1) := by decide +kernel
theorem dX2_reasonAgainst_10 : decode cX2_reasonAgainst 10 = .ok (.aload_n 0, 1) := by decide +kernel
theorem dX2_reasonAgainst_11 : decode cX2_reasonAgainst 11 = .ok (.invokevirtual 154, 3) := by decide +kernel
theorem dX2_reasonAgainst_14 : decode cX2_reasonAgainst 14 = .ok (.lstore_n 2, 1) := by decide +kernel
theorem dX2_reasonAgainst_15 : decode cX2_reasonAgainst 15 = .ok (.lload_n 2, 1) := by decide +kernel
theorem dX2_reasonAgainst_16 : decode cX2_reasonAgainst 16 = .ok (.iload_n 1, 1) := by decide +kernel
theorem dX2_reasonAgainst_17 : decode cX2_reasonAgainst 17 = .ok (.invokestatic 124, 3) := by decide +kernel
theorem dX2_reasonAgainst_20 : decode cX2_reasonAgainst 20 = .ok (.ifCond .ne 5, 3) := by decide +kernel
theorem dX2_reasonAgainst_23 : decode cX2_reasonAgainst 23 = .ok (.iconst 2, 1) := by decide +kernel
theorem dX2_reasonAgainst_24 : decode cX2_reasonAgainst 24 = .ok (.ireturn, 1) := by decide +kernel
theorem dX2_reasonAgainst_25 : decode cX2_reasonAgainst 25 = .ok (.aload_n 0, 1) := by decide +kernel
theorem dX2_reasonAgainst_26 : decode cX2_reasonAgainst 26 = .ok (.getfield 30, 3) := by decide +kernel
theorem dX2_reasonAgainst_29 : decode cX2_reasonAgainst 29 = .ok (.iconst (-1), 1) := by decide +kernel
theorem dX2_reasonAgainst_30 : decode cX2_reasonAgainst 30 = .ok (.if_icmp .ne 9, 3) := by decide +kernel
theorem dX2_reasonAgainst_33 : decode cX2_reasonAgainst 33 = .ok (.lload_n 2, 1) := by decide +kernel
theorem dX2_reasonAgainst_34 : decode cX2_reasonAgainst 34 = .ok (.iload_n 1, 1) := by decide +kernel
theorem dX2_reasonAgainst_35 : decode cX2_reasonAgainst 35 = .ok (.invokestatic 188, 3) := by decide +kernel
theorem dX2_reasonAgainst_38 : decode cX2_reasonAgainst 38 = .ok (.ireturn, 1) := by decide +kernel
theorem dX2_reasonAgainst_39 : decode cX2_reasonAgainst 39 = .ok (.aload_n 0, 1) := by decide +kernel
theorem dX2_reasonAgainst_40 : decode cX2_reasonAgainst 40 = .ok (.getfield 23, 3) := by decide +kernel
theorem dX2_reasonAgainst_43 : decode cX2_reasonAgainst 43 = .ok (.bipush 42, 2) := by decide +kernel
theorem dX2_reasonAgainst_45 : decode cX2_reasonAgainst 45 = .ok (.if_icmp .ge 7, 3) := by decide +kernel
theorem dX2_reasonAgainst_48 : decode cX2_reasonAgainst 48 = .ok (.iconst 0, 1) := by decide +kernel
theorem dX2_reasonAgainst_49 : decode cX2_reasonAgainst 49 = .ok (.goto 16, 3) := by decide +kernel
theorem dX2_reasonAgainst_52 : decode cX2_reasonAgainst 52 = .ok (.lload_n 2, 1) := by decide +kernel
theorem dX2_reasonAgainst_53 : decode cX2_reasonAgainst 53 = .ok (.iload_n 1, 1) := by decide +kernel
theorem dX2_reasonAgainst_54 : decode cX2_reasonAgainst 54 = .ok (.aload_n 0, 1) := by decide +kernel
theorem dX2_reasonAgainst_55 : decode cX2_reasonAgainst 55 = .ok (.getfield 30, 3) := by decide +kernel
theorem dX2_reasonAgainst_58 : decode cX2_reasonAgainst 58 = .ok (.aload_n 0, 1) := by decide +kernel
theorem dX2_reasonAgainst_59 : decode cX2_reasonAgainst 59 = .ok (.getfield 27, 3) := by decide +kernel
theorem dX2_reasonAgainst_62 : decode cX2_reasonAgainst 62 = .ok (.invokestatic 192, 3) := by decide +kernel
theorem dX2_reasonAgainst_65 : decode cX2_reasonAgainst 65 = .ok (.ireturn, 1) := by decide +kernel
set_option maxRecDepth 20000 in
theorem ggX2_takerBy_X2_beats : GoodIn wsX2_takerBy wsX2_beats := goodIn_r _ [7, 8, 9, 6, 10] (by decide +kernel) (by decide +kernel)
set_option maxRecDepth 20000 in
theorem gX2_takerBy_X2_beats : GoodIn wsX2_takerBy (va_wsS RX2 196 yX2_beats wsX2_beats) := goodIn_app (goodIn_of _ (by decide +kernel)) ggX2_takerBy_X2_beats
theorem dX2_takerBy_0 : decode cX2_takerBy 0 = .ok (.iload_n 1, 1) := by decide +kernel
theorem dX2_takerBy_1 : decode cX2_takerBy 1 = .ok (.aload_n 0, 1) := by decide +kernel
theorem dX2_takerBy_2 : decode cX2_takerBy 2 = .ok (.getfield 30, 3) := by decide +kernel
theorem dX2_takerBy_5 : decode cX2_takerBy 5 = .ok (.aload_n 0, 1) := by decide +kernel
theorem dX2_takerBy_6 : decode cX2_takerBy 6 = .ok (.getfield 27, 3) := by decide +kernel
theorem dX2_takerBy_9 : decode cX2_takerBy 9 = .ok (.invokestatic 196, 3) := by decide +kernel
theorem dX2_takerBy_12 : decode cX2_takerBy 12 = .ok (.ifCond .eq 10, 3) := by decide +kernel
theorem dX2_takerBy_15 : decode cX2_takerBy 15 = .ok (.aload_n 0, 1) := by decide +kernel
theorem dX2_takerBy_16 : decode cX2_takerBy 16 = .ok (.getfield 33, 3) := by decide +kernel
theorem dX2_takerBy_19 : decode cX2_takerBy 19 = .ok (.goto 9, 3) := by decide +kernel
theorem dX2_takerBy_22 : decode cX2_takerBy 22 = .ok (.iconst 1, 1) := by decide +kernel
theorem dX2_takerBy_23 : decode cX2_takerBy 23 = .ok (.aload_n 0, 1) := by decide +kernel
theorem dX2_takerBy_24 : decode cX2_takerBy 24 = .ok (.getfield 33, 3) := by decide +kernel
theorem dX2_takerBy_27 : decode cX2_takerBy 27 = .ok (.isub, 1) := by decide +kernel
theorem dX2_takerBy_28 : decode cX2_takerBy 28 = .ok (.ireturn, 1) := by decide +kernel
set_option maxRecDepth 20000 in
theorem ggX2_finishTrick_X2_takerBy : GoodIn wsX2_finishTrick wsX2_takerBy := goodIn_r _ [14, 3, 15, 8, 16, 17, 13, 18, 19, 20, 21, 55, 56, 57, 58, 59, 60, 61, 62, 63, 64, 65] (by decide +kernel) (by decide +kernel)
set_option maxRecDepth 20000 in
theorem gX2_finishTrick_X2_takerBy : GoodIn wsX2_finishTrick (wsV RX2 141 RX2 yX2_takerBy wsX2_takerBy) := goodIn_app (goodIn_of _ (by decide +kernel)) ggX2_finishTrick_X2_takerBy
set_option maxRecDepth 20000 in
theorem ggX2_finishTrick_X2_archivist : GoodIn wsX2_finishTrick wsX2_archivist := goodIn_r _ [25, 6, 7, 55, 56, 57, 58, 59, 60, 61, 62, 63, 64, 65] (by decide +kernel) (by decide +kernel)
set_option maxRecDepth 20000 in
theorem gX2_finishTrick_X2_archivist : GoodIn wsX2_finishTrick (wsV RX2 87 RX2 yX2_archivist wsX2_archivist) := goodIn_app (goodIn_of _ (by decide +kernel)) ggX2_finishTrick_X2_archivist
set_option maxRecDepth 20000 in
theorem ggX2_finishTrick_X2_worth : GoodIn wsX2_finishTrick wsX2_worth := goodIn_r _ [28, 19, 20, 13, 21] (by decide +kernel) (by decide +kernel)
set_option maxRecDepth 20000 in
theorem gX2_finishTrick_X2_worth : GoodIn wsX2_finishTrick (va_wsS RX2 200 yX2_worth wsX2_worth) := goodIn_app (goodIn_of _ (by decide +kernel)) ggX2_finishTrick_X2_worth
set_option maxRecDepth 20000 in
theorem ggX2_finishTrick_X2_bit : GoodIn wsX2_finishTrick wsX2_bit := goodIn_r _ [31] (by decide +kernel) (by decide +kernel)
set_option maxRecDepth 20000 in
theorem gX2_finishTrick_X2_bit : GoodIn wsX2_finishTrick (va_wsS RX2 95 yX2_bit wsX2_bit) := goodIn_app (goodIn_of _ (by decide +kernel)) ggX2_finishTrick_X2_bit
set_option maxRecDepth 20000 in
theorem ggX2_finishTrick_X0_loseWornGloves : GoodIn wsX2_finishTrick wsX0_loseWornGloves := goodIn_r _ [36, 37, 50, 51, 52, 53, 54] (by decide +kernel) (by decide +kernel)
set_option maxRecDepth 20000 in
theorem gX2_finishTrick_X0_loseWornGloves : GoodIn wsX2_finishTrick (wsV RX2 204 RX0 yX0_loseWornGloves wsX0_loseWornGloves) := goodIn_app (goodIn_of _ (by decide +kernel)) ggX2_finishTrick_X0_loseWornGloves
set_option maxRecDepth 20000 in
theorem ggX2_finishTrick_X2_drawFor : GoodIn wsX2_finishTrick wsX2_drawFor := goodIn_r _ [41, 42, 9, 43, 29, 30, 13, 31, 55, 56, 57, 58, 59, 60, 61, 62, 63, 64, 65, 50, 51, 52, 53, 54] (by decide +kernel) (by decide +kernel)
set_option maxRecDepth 20000 in
theorem gX2_finishTrick_X2_drawFor : GoodIn wsX2_finishTrick (wsV RX2 207 RX2 yX2_drawFor wsX2_drawFor) := goodIn_app (goodIn_of _ (by decide +kernel)) ggX2_finishTrick_X2_drawFor
set_option maxRecDepth 20000 in
theorem ggX2_finishTrick_X2_endGame : GoodIn wsX2_finishTrick wsX2_endGame := goodIn_r _ [47, 8, 6, 2, 7, 48, 49, 55, 56, 57, 58, 59, 60, 61, 62, 63, 64, 65, 50, 51, 52, 53, 54] (by decide +kernel) (by decide +kernel)
set_option maxRecDepth 20000 in
theorem gX2_finishTrick_X2_endGame : GoodIn wsX2_finishTrick (wsV RX2 211 RX2 yX2_endGame wsX2_endGame) := goodIn_app (goodIn_of _ (by decide +kernel)) ggX2_finishTrick_X2_endGame
theorem dX2_finishTrick_0 : decode cX2_finishTrick 0 = .ok (.aload_n 0, 1) := by decide +kernel
theorem dX2_finishTrick_1 : decode cX2_finishTrick 1 = .ok (.iload_n 1, 1) := by decide +kernel
theorem dX2_finishTrick_2 : decode cX2_finishTrick 2 = .ok (.invokevirtual 141, 3) := by decide +kernel
theorem dX2_finishTrick_5 : decode cX2_finishTrick 5 = .ok (.istore_n 2, 1) := by decide +kernel
theorem dX2_finishTrick_6 : decode cX2_finishTrick 6 = .ok (.aload_n 0, 1) := by decide +kernel
theorem dX2_finishTrick_7 : decode cX2_finishTrick 7 = .ok (.iload_n 2, 1) := by decide +kernel
theorem dX2_finishTrick_8 : decode cX2_finishTrick 8 = .ok (.invokevirtual 87, 3) := by decide +kernel
theorem dX2_finishTrick_11 : decode cX2_finishTrick 11 = .ok (.astore_n 3, 1) := by decide +kernel
theorem dX2_finishTrick_12 : decode cX2_finishTrick 12 = .ok (.aload_n 3, 1) := by decide +kernel
theorem dX2_finishTrick_13 : decode cX2_finishTrick 13 = .ok (.getfield 105, 3) := by decide +kernel
theorem dX2_finishTrick_16 : decode cX2_finishTrick 16 = .ok (.iconst 1, 1) := by decide +kernel
theorem dX2_finishTrick_17 : decode cX2_finishTrick 17 = .ok (.if_icmp .ne 7, 3) := by decide +kernel
theorem dX2_finishTrick_20 : decode cX2_finishTrick 20 = .ok (.iconst 1, 1) := by decide +kernel
theorem dX2_finishTrick_21 : decode cX2_finishTrick 21 = .ok (.goto 4, 3) := by decide +kernel
theorem dX2_finishTrick_24 : decode cX2_finishTrick 24 = .ok (.iconst 0, 1) := by decide +kernel
theorem dX2_finishTrick_25 : decode cX2_finishTrick 25 = .ok (.istore 4, 2) := by decide +kernel
theorem dX2_finishTrick_27 : decode cX2_finishTrick 27 = .ok (.aload_n 3, 1) := by decide +kernel
theorem dX2_finishTrick_28 : decode cX2_finishTrick 28 = .ok (.dup, 1) := by decide +kernel
theorem dX2_finishTrick_29 : decode cX2_finishTrick 29 = .ok (.getfield 133, 3) := by decide +kernel
theorem dX2_finishTrick_32 : decode cX2_finishTrick 32 = .ok (.aload_n 0, 1) := by decide +kernel
theorem dX2_finishTrick_33 : decode cX2_finishTrick 33 = .ok (.getfield 30, 3) := by decide +kernel
theorem dX2_finishTrick_36 : decode cX2_finishTrick 36 = .ok (.iload 4, 2) := by decide +kernel
theorem dX2_finishTrick_38 : decode cX2_finishTrick 38 = .ok (.invokestatic 200, 3) := by decide +kernel
theorem dX2_finishTrick_41 : decode cX2_finishTrick 41 = .ok (.iload_n 1, 1) := by decide +kernel
theorem dX2_finishTrick_42 : decode cX2_finishTrick 42 = .ok (.iload 4, 2) := by decide +kernel
theorem dX2_finishTrick_44 : decode cX2_finishTrick 44 = .ok (.invokestatic 200, 3) := by decide +kernel
theorem dX2_finishTrick_47 : decode cX2_finishTrick 47 = .ok (.iadd, 1) := by decide +kernel
theorem dX2_finishTrick_48 : decode cX2_finishTrick 48 = .ok (.iadd, 1) := by decide +kernel
theorem dX2_finishTrick_49 : decode cX2_finishTrick 49 = .ok (.putfield 133, 3) := by decide +kernel
theorem dX2_finishTrick_52 : decode cX2_finishTrick 52 = .ok (.aload_n 3, 1) := by decide +kernel
theorem dX2_finishTrick_53 : decode cX2_finishTrick 53 = .ok (.dup, 1) := by decide +kernel
theorem dX2_finishTrick_54 : decode cX2_finishTrick 54 = .ok (.getfield 136, 3) := by decide +kernel
theorem dX2_finishTrick_57 : decode cX2_finishTrick 57 = .ok (.iconst 1, 1) := by decide +kernel
theorem dX2_finishTrick_58 : decode cX2_finishTrick 58 = .ok (.iadd, 1) := by decide +kernel
theorem dX2_finishTrick_59 : decode cX2_finishTrick 59 = .ok (.putfield 136, 3) := by decide +kernel
theorem dX2_finishTrick_62 : decode cX2_finishTrick 62 = .ok (.aload_n 3, 1) := by decide +kernel
theorem dX2_finishTrick_63 : decode cX2_finishTrick 63 = .ok (.dup, 1) := by decide +kernel
theorem dX2_finishTrick_64 : decode cX2_finishTrick 64 = .ok (.getfield 130, 3) := by decide +kernel
theorem dX2_finishTrick_67 : decode cX2_finishTrick 67 = .ok (.aload_n 0, 1) := by decide +kernel
theorem dX2_finishTrick_68 : decode cX2_finishTrick 68 = .ok (.getfield 30, 3) := by decide +kernel
theorem dX2_finishTrick_71 : decode cX2_finishTrick 71 = .ok (.invokestatic 95, 3) := by decide +kernel
theorem dX2_finishTrick_74 : decode cX2_finishTrick 74 = .ok (.iload_n 1, 1) := by decide +kernel
theorem dX2_finishTrick_75 : decode cX2_finishTrick 75 = .ok (.invokestatic 95, 3) := by decide +kernel
theorem dX2_finishTrick_78 : decode cX2_finishTrick 78 = .ok (.lor, 1) := by decide +kernel
theorem dX2_finishTrick_79 : decode cX2_finishTrick 79 = .ok (.lor, 1) := by decide +kernel
theorem dX2_finishTrick_80 : decode cX2_finishTrick 80 = .ok (.putfield 130, 3) := by decide +kernel
theorem dX2_finishTrick_83 : decode cX2_finishTrick 83 = .ok (.aload_n 0, 1) := by decide +kernel
theorem dX2_finishTrick_84 : decode cX2_finishTrick 84 = .ok (.getfield 16, 3) := by decide +kernel
theorem dX2_finishTrick_87 : decode cX2_finishTrick 87 = .ok (.invokevirtual 204, 3) := by decide +kernel
theorem dX2_finishTrick_90 : decode cX2_finishTrick 90 = .ok (.aload_n 0, 1) := by decide +kernel
theorem dX2_finishTrick_91 : decode cX2_finishTrick 91 = .ok (.getfield 20, 3) := by decide +kernel
theorem dX2_finishTrick_94 : decode cX2_finishTrick 94 = .ok (.invokevirtual 204, 3) := by decide +kernel
theorem dX2_finishTrick_97 : decode cX2_finishTrick 97 = .ok (.aload_n 0, 1) := by decide +kernel
theorem dX2_finishTrick_98 : decode cX2_finishTrick 98 = .ok (.iconst (-1), 1) := by decide +kernel
theorem dX2_finishTrick_99 : decode cX2_finishTrick 99 = .ok (.putfield 30, 3) := by decide +kernel
theorem dX2_finishTrick_102 : decode cX2_finishTrick 102 = .ok (.aload_n 0, 1) := by decide +kernel
theorem dX2_finishTrick_103 : decode cX2_finishTrick 103 = .ok (.aload_n 3, 1) := by decide +kernel
theorem dX2_finishTrick_104 : decode cX2_finishTrick 104 = .ok (.invokevirtual 207, 3) := by decide +kernel
theorem dX2_finishTrick_107 : decode cX2_finishTrick 107 = .ok (.aload_n 0, 1) := by decide +kernel
theorem dX2_finishTrick_108 : decode cX2_finishTrick 108 = .ok (.aload_n 0, 1) := by decide +kernel
theorem dX2_finishTrick_109 : decode cX2_finishTrick 109 = .ok (.iconst 1, 1) := by decide +kernel
theorem dX2_finishTrick_110 : decode cX2_finishTrick 110 = .ok (.iload_n 2, 1) := by decide +kernel
theorem dX2_finishTrick_111 : decode cX2_finishTrick 111 = .ok (.isub, 1) := by decide +kernel
theorem dX2_finishTrick_112 : decode cX2_finishTrick 112 = .ok (.invokevirtual 87, 3) := by decide +kernel
theorem dX2_finishTrick_115 : decode cX2_finishTrick 115 = .ok (.invokevirtual 207, 3) := by decide +kernel
theorem dX2_finishTrick_118 : decode cX2_finishTrick 118 = .ok (.aload_n 0, 1) := by decide +kernel
theorem dX2_finishTrick_119 : decode cX2_finishTrick 119 = .ok (.iload_n 2, 1) := by decide +kernel
theorem dX2_finishTrick_120 : decode cX2_finishTrick 120 = .ok (.putfield 33, 3) := by decide +kernel
theorem dX2_finishTrick_123 : decode cX2_finishTrick 123 = .ok (.aload_n 0, 1) := by decide +kernel
theorem dX2_finishTrick_124 : decode cX2_finishTrick 124 = .ok (.getfield 16, 3) := by decide +kernel
theorem dX2_finishTrick_127 : decode cX2_finishTrick 127 = .ok (.getfield 91, 3) := by decide +kernel
theorem dX2_finishTrick_130 : decode cX2_finishTrick 130 = .ok (.aload_n 0, 1) := by decide +kernel
theorem dX2_finishTrick_131 : decode cX2_finishTrick 131 = .ok (.getfield 20, 3) := by decide +kernel
theorem dX2_finishTrick_134 : decode cX2_finishTrick 134 = .ok (.getfield 91, 3) := by decide +kernel
theorem dX2_finishTrick_137 : decode cX2_finishTrick 137 = .ok (.lor, 1) := by decide +kernel
theorem dX2_finishTrick_138 : decode cX2_finishTrick 138 = .ok (.lconst 0, 1) := by decide +kernel
theorem dX2_finishTrick_139 : decode cX2_finishTrick 139 = .ok (.lcmp, 1) := by decide +kernel
theorem dX2_finishTrick_140 : decode cX2_finishTrick 140 = .ok (.ifCond .ne 7, 3) := by decide +kernel
theorem dX2_finishTrick_143 : decode cX2_finishTrick 143 = .ok (.aload_n 0, 1) := by decide +kernel
theorem dX2_finishTrick_144 : decode cX2_finishTrick 144 = .ok (.invokevirtual 211, 3) := by decide +kernel
theorem dX2_finishTrick_147 : decode cX2_finishTrick 147 = .ok (.iload_n 2, 1) := by decide +kernel
theorem dX2_finishTrick_148 : decode cX2_finishTrick 148 = .ok (.ireturn, 1) := by decide +kernel
theorem dX2_endGame_0 : decode cX2_endGame 0 = .ok (.aload_n 0, 1) := by decide +kernel
theorem dX2_endGame_1 : decode cX2_endGame 1 = .ok (.iconst (-1), 1) := by decide +kernel
theorem dX2_endGame_2 : decode cX2_endGame 2 = .ok (.putfield 33, 3) := by decide +kernel
theorem dX2_endGame_5 : decode cX2_endGame 5 = .ok (.aload_n 0, 1) := by decide +kernel
theorem dX2_endGame_6 : decode cX2_endGame 6 = .ok (.getfield 16, 3) := by decide +kernel
theorem dX2_endGame_9 : decode cX2_endGame 9 = .ok (.getfield 133, 3) := by decide +kernel
theorem dX2_endGame_12 : decode cX2_endGame 12 = .ok (.aload_n 0, 1) := by decide +kernel
theorem dX2_endGame_13 : decode cX2_endGame 13 = .ok (.getfield 20, 3) := by decide +kernel
theorem dX2_endGame_16 : decode cX2_endGame 16 = .ok (.getfield 133, 3) := by decide +kernel
theorem dX2_endGame_19 : decode cX2_endGame 19 = .ok (.if_icmp .le 16, 3) := by decide +kernel
theorem dX2_endGame_22 : decode cX2_endGame 22 = .ok (.aload_n 0, 1) := by decide +kernel
theorem dX2_endGame_23 : decode cX2_endGame 23 = .ok (.dup, 1) := by decide +kernel
theorem dX2_endGame_24 : decode cX2_endGame 24 = .ok (.getfield 36, 3) := by decide +kernel
theorem dX2_endGame_27 : decode cX2_endGame 27 = .ok (.iconst 1, 1) := by decide +kernel
theorem dX2_endGame_28 : decode cX2_endGame 28 = .ok (.iadd, 1) := by decide +kernel
theorem dX2_endGame_29 : decode cX2_endGame 29 = .ok (.putfield 36, 3) := by decide +kernel
theorem dX2_endGame_32 : decode cX2_endGame 32 = .ok (.goto 30, 3) := by decide +kernel
theorem dX2_endGame_35 : decode cX2_endGame 35 = .ok (.aload_n 0, 1) := by decide +kernel
theorem dX2_endGame_36 : decode cX2_endGame 36 = .ok (.getfield 20, 3) := by decide +kernel
theorem dX2_endGame_39 : decode cX2_endGame 39 = .ok (.getfield 133, 3) := by decide +kernel
theorem dX2_endGame_42 : decode cX2_endGame 42 = .ok (.aload_n 0, 1) := by decide +kernel
theorem dX2_endGame_43 : decode cX2_endGame 43 = .ok (.getfield 16, 3) := by decide +kernel
theorem dX2_endGame_46 : decode cX2_endGame 46 = .ok (.getfield 133, 3) := by decide +kernel
theorem dX2_endGame_49 : decode cX2_endGame 49 = .ok (.if_icmp .le 13, 3) := by decide +kernel
theorem dX2_endGame_52 : decode cX2_endGame 52 = .ok (.aload_n 0, 1) := by decide +kernel
theorem dX2_endGame_53 : decode cX2_endGame 53 = .ok (.dup, 1) := by decide +kernel
theorem dX2_endGame_54 : decode cX2_endGame 54 = .ok (.getfield 39, 3) := by decide +kernel
theorem dX2_endGame_57 : decode cX2_endGame 57 = .ok (.iconst 1, 1) := by decide +kernel
theorem dX2_endGame_58 : decode cX2_endGame 58 = .ok (.iadd, 1) := by decide +kernel
theorem dX2_endGame_59 : decode cX2_endGame 59 = .ok (.putfield 39, 3) := by decide +kernel
theorem dX2_endGame_62 : decode cX2_endGame 62 = .ok (.return_, 1) := by decide +kernel
theorem dX2_archivist_0 : decode cX2_archivist 0 = .ok (.iload_n 1, 1) := by decide +kernel
theorem dX2_archivist_1 : decode cX2_archivist 1 = .ok (.ifCond .ne 10, 3) := by decide +kernel
theorem dX2_archivist_4 : decode cX2_archivist 4 = .ok (.aload_n 0, 1) := by decide +kernel
theorem dX2_archivist_5 : decode cX2_archivist 5 = .ok (.getfield 16, 3) := by decide +kernel
theorem dX2_archivist_8 : decode cX2_archivist 8 = .ok (.goto 7, 3) := by decide +kernel
theorem dX2_archivist_11 : decode cX2_archivist 11 = .ok (.aload_n 0, 1) := by decide +kernel
theorem dX2_archivist_12 : decode cX2_archivist 12 = .ok (.getfield 20, 3) := by decide +kernel
theorem dX2_archivist_15 : decode cX2_archivist 15 = .ok (.areturn, 1) := by decide +kernel
set_option maxRecDepth 20000 in
theorem ggX2_moversHand_X2_archivist : GoodIn wsX2_moversHand wsX2_archivist := goodIn_r _ [7, 8, 9, 10, 11, 12, 13, 14, 15, 16, 17, 18, 19, 20] (by decide +kernel) (by decide +kernel)
set_option maxRecDepth 20000 in
theorem gX2_moversHand_X2_archivist : GoodIn wsX2_moversHand (wsV RX2 87 RX2 yX2_archivist wsX2_archivist) := goodIn_app (goodIn_of _ (by decide +kernel)) ggX2_moversHand_X2_archivist
theorem dX2_moversHand_0 : decode cX2_moversHand 0 = .ok (.aload_n 0, 1) := by decide +kernel
theorem dX2_moversHand_1 : decode cX2_moversHand 1 = .ok (.aload_n 0, 1) := by decide +kernel
theorem dX2_moversHand_2 : decode cX2_moversHand 2 = .ok (.getfield 33, 3) := by decide +kernel
theorem dX2_moversHand_5 : decode cX2_moversHand 5 = .ok (.invokevirtual 87, 3) := by decide +kernel
theorem dX2_moversHand_8 : decode cX2_moversHand 8 = .ok (.getfield 91, 3) := by decide +kernel
theorem dX2_moversHand_11 : decode cX2_moversHand 11 = .ok (.lreturn, 1) := by decide +kernel
theorem dX2_isCard_0 : decode cX2_isCard 0 = .ok (.iload_n 0, 1) := by decide +kernel
theorem dX2_isCard_1 : decode cX2_isCard 1 = .ok (.ifCond .lt 13, 3) := by decide +kernel
theorem dX2_isCard_4 : decode cX2_isCard 4 = .ok (.iload_n 0, 1) := by decide +kernel
theorem dX2_isCard_5 : decode cX2_isCard 5 = .ok (.bipush 42, 2) := by decide +kernel
theorem dX2_isCard_7 : decode cX2_isCard 7 = .ok (.if_icmp .ge 7, 3) := by decide +kernel
theorem dX2_isCard_10 : decode cX2_isCard 10 = .ok (.iconst 1, 1) := by decide +kernel
theorem dX2_isCard_11 : decode cX2_isCard 11 = .ok (.goto 4, 3) := by decide +kernel
theorem dX2_isCard_14 : decode cX2_isCard 14 = .ok (.iconst 0, 1) := by decide +kernel
theorem dX2_isCard_15 : decode cX2_isCard 15 = .ok (.ireturn, 1) := by decide +kernel
theorem dX2_isArchivist_0 : decode cX2_isArchivist 0 = .ok (.iload_n 0, 1) := by decide +kernel
theorem dX2_isArchivist_1 : decode cX2_isArchivist 1 = .ok (.ifCond .eq 8, 3) := by decide +kernel
theorem dX2_isArchivist_4 : decode cX2_isArchivist 4 = .ok (.iload_n 0, 1) := by decide +kernel
theorem dX2_isArchivist_5 : decode cX2_isArchivist 5 = .ok (.iconst 1, 1) := by decide +kernel
theorem dX2_isArchivist_6 : decode cX2_isArchivist 6 = .ok (.if_icmp .ne 7, 3) := by decide +kernel
theorem dX2_isArchivist_9 : decode cX2_isArchivist 9 = .ok (.iconst 1, 1) := by decide +kernel
theorem dX2_isArchivist_10 : decode cX2_isArchivist 10 = .ok (.goto 4, 3) := by decide +kernel
theorem dX2_isArchivist_13 : decode cX2_isArchivist 13 = .ok (.iconst 0, 1) := by decide +kernel
theorem dX2_isArchivist_14 : decode cX2_isArchivist 14 = .ok (.ireturn, 1) := by decide +kernel
theorem dX2_isMildew_0 : decode cX2_isMildew 0 = .ok (.iload_n 0, 1) := by decide +kernel
theorem dX2_isMildew_1 : decode cX2_isMildew 1 = .ok (.bipush 40, 2) := by decide +kernel
theorem dX2_isMildew_3 : decode cX2_isMildew 3 = .ok (.if_icmp .lt 7, 3) := by decide +kernel
theorem dX2_isMildew_6 : decode cX2_isMildew 6 = .ok (.iconst 1, 1) := by decide +kernel
theorem dX2_isMildew_7 : decode cX2_isMildew 7 = .ok (.goto 4, 3) := by decide +kernel
theorem dX2_isMildew_10 : decode cX2_isMildew 10 = .ok (.iconst 0, 1) := by decide +kernel
theorem dX2_isMildew_11 : decode cX2_isMildew 11 = .ok (.ireturn, 1) := by decide +kernel
theorem dX2_bit_0 : decode cX2_bit 0 = .ok (.lconst 1, 1) := by decide +kernel
theorem dX2_bit_1 : decode cX2_bit 1 = .ok (.iload_n 0, 1) := by decide +kernel
theorem dX2_bit_2 : decode cX2_bit 2 = .ok (.lshl, 1) := by decide +kernel
theorem dX2_bit_3 : decode cX2_bit 3 = .ok (.lreturn, 1) := by decide +kernel
theorem dX2_has_0 : decode cX2_has 0 = .ok (.lload_n 0, 1) := by decide +kernel
theorem dX2_has_1 : decode cX2_has 1 = .ok (.iload_n 2, 1) := by decide +kernel
theorem dX2_has_2 : decode cX2_has 2 = .ok (.lushr, 1) := by decide +kernel
theorem dX2_has_3 : decode cX2_has 3 = .ok (.lconst 1, 1) := by decide +kernel
theorem dX2_has_4 : decode cX2_has 4 = .ok (.land, 1) := by decide +kernel
theorem dX2_has_5 : decode cX2_has 5 = .ok (.lconst 0, 1) := by decide +kernel
theorem dX2_has_6 : decode cX2_has 6 = .ok (.lcmp, 1) := by decide +kernel
theorem dX2_has_7 : decode cX2_has 7 = .ok (.ifCond .eq 7, 3) := by decide +kernel
theorem dX2_has_10 : decode cX2_has 10 = .ok (.iconst 1, 1) := by decide +kernel
theorem dX2_has_11 : decode cX2_has 11 = .ok (.goto 4, 3) := by decide +kernel
theorem dX2_has_14 : decode cX2_has 14 = .ok (.iconst 0, 1) := by decide +kernel
theorem dX2_has_15 : decode cX2_has 15 = .ok (.ireturn, 1) := by decide +kernel
theorem dX2_allOf_0 : decode cX2_allOf 0 = .ok (.ldc2_w 218, 3) := by decide +kernel
theorem dX2_allOf_3 : decode cX2_allOf 3 = .ok (.iload_n 0, 1) := by decide +kernel
theorem dX2_allOf_4 : decode cX2_allOf 4 = .ok (.bipush 10, 2) := by decide +kernel
theorem dX2_allOf_6 : decode cX2_allOf 6 = .ok (.imul, 1) := by decide +kernel
theorem dX2_allOf_7 : decode cX2_allOf 7 = .ok (.lshl, 1) := by decide +kernel
theorem dX2_allOf_8 : decode cX2_allOf 8 = .ok (.lreturn, 1) := by decide +kernel
set_option maxRecDepth 20000 in
theorem ggX2_worth_X2_isMildew : GoodIn wsX2_worth wsX2_isMildew := goodIn_r _ [4] (by decide +kernel) (by decide +kernel)
set_option maxRecDepth 20000 in
theorem gX2_worth_X2_isMildew : GoodIn wsX2_worth (va_wsS RX2 64 yX2_isMildew wsX2_isMildew) := goodIn_app (goodIn_of _ (by decide +kernel)) ggX2_worth_X2_isMildew
theorem dX2_worth_0 : decode cX2_worth 0 = .ok (.iload_n 0, 1) := by decide +kernel
theorem dX2_worth_1 : decode cX2_worth 1 = .ok (.invokestatic 64, 3) := by decide +kernel
theorem dX2_worth_4 : decode cX2_worth 4 = .ok (.ifCond .eq 14, 3) := by decide +kernel
theorem dX2_worth_7 : decode cX2_worth 7 = .ok (.iload_n 1, 1) := by decide +kernel
theorem dX2_worth_8 : decode cX2_worth 8 = .ok (.ifCond .eq 7, 3) := by decide +kernel
theorem dX2_worth_11 : decode cX2_worth 11 = .ok (.iconst 0, 1) := by decide +kernel
theorem dX2_worth_12 : decode cX2_worth 12 = .ok (.goto 5, 3) := by decide +kernel
theorem dX2_worth_15 : decode cX2_worth 15 = .ok (.bipush (-5), 2) := by decide +kernel
theorem dX2_worth_17 : decode cX2_worth 17 = .ok (.ireturn, 1) := by decide +kernel
theorem dX2_worth_18 : decode cX2_worth 18 = .ok (.bipush 10, 2) := by decide +kernel
theorem dX2_worth_20 : decode cX2_worth 20 = .ok (.iload_n 0, 1) := by decide +kernel
theorem dX2_worth_21 : decode cX2_worth 21 = .ok (.bipush 10, 2) := by decide +kernel
theorem dX2_worth_23 : decode cX2_worth 23 = .ok (.irem, 1) := by decide +kernel
theorem dX2_worth_24 : decode cX2_worth 24 = .ok (.isub, 1) := by decide +kernel
theorem dX2_worth_25 : decode cX2_worth 25 = .ok (.ireturn, 1) := by decide +kernel
set_option maxRecDepth 20000 in
theorem ggX2_beats_X2_isMildew : GoodIn wsX2_beats wsX2_isMildew := goodIn_r _ [4] (by decide +kernel) (by decide +kernel)
set_option maxRecDepth 20000 in
theorem gX2_beats_X2_isMildew : GoodIn wsX2_beats (va_wsS RX2 64 yX2_isMildew wsX2_isMildew) := goodIn_app (goodIn_of _ (by decide +kernel)) ggX2_beats_X2_isMildew
theorem dX2_beats_0 : decode cX2_beats 0 = .ok (.iload_n 0, 1) := by decide +kernel
theorem dX2_beats_1 : decode cX2_beats 1 = .ok (.invokestatic 64, 3) := by decide +kernel
theorem dX2_beats_4 : decode cX2_beats 4 = .ok (.ifCond .eq 5, 3) := by decide +kernel
theorem dX2_beats_7 : decode cX2_beats 7 = .ok (.iconst 0, 1) := by decide +kernel
theorem dX2_beats_8 : decode cX2_beats 8 = .ok (.ireturn, 1) := by decide +kernel
theorem dX2_beats_9 : decode cX2_beats 9 = .ok (.iload_n 1, 1) := by decide +kernel
theorem dX2_beats_10 : decode cX2_beats 10 = .ok (.invokestatic 64, 3) := by decide +kernel
theorem dX2_beats_13 : decode cX2_beats 13 = .ok (.ifCond .eq 5, 3) := by decide +kernel
theorem dX2_beats_16 : decode cX2_beats 16 = .ok (.iconst 1, 1) := by decide +kernel
theorem dX2_beats_17 : decode cX2_beats 17 = .ok (.ireturn, 1) := by decide +kernel
theorem dX2_beats_18 : decode cX2_beats 18 = .ok (.iload_n 0, 1) := by decide +kernel
theorem dX2_beats_19 : decode cX2_beats 19 = .ok (.bipush 10, 2) := by decide +kernel
theorem dX2_beats_21 : decode cX2_beats 21 = .ok (.idiv, 1) := by decide +kernel
theorem dX2_beats_22 : decode cX2_beats 22 = .ok (.iload_n 1, 1) := by decide +kernel
theorem dX2_beats_23 : decode cX2_beats 23 = .ok (.bipush 10, 2) := by decide +kernel
theorem dX2_beats_25 : decode cX2_beats 25 = .ok (.idiv, 1) := by decide +kernel
theorem dX2_beats_26 : decode cX2_beats 26 = .ok (.if_icmp .ne 14, 3) := by decide +kernel
theorem dX2_beats_29 : decode cX2_beats 29 = .ok (.iload_n 0, 1) := by decide +kernel
theorem dX2_beats_30 : decode cX2_beats 30 = .ok (.iload_n 1, 1) := by decide +kernel
theorem dX2_beats_31 : decode cX2_beats 31 = .ok (.if_icmp .ge 7, 3) := by decide +kernel
theorem dX2_beats_34 : decode cX2_beats 34 = .ok (.iconst 1, 1) := by decide +kernel
theorem dX2_beats_35 : decode cX2_beats 35 = .ok (.goto 4, 3) := by decide +kernel
theorem dX2_beats_38 : decode cX2_beats 38 = .ok (.iconst 0, 1) := by decide +kernel
theorem dX2_beats_39 : decode cX2_beats 39 = .ok (.ireturn, 1) := by decide +kernel
theorem dX2_beats_40 : decode cX2_beats 40 = .ok (.iload_n 0, 1) := by decide +kernel
theorem dX2_beats_41 : decode cX2_beats 41 = .ok (.bipush 10, 2) := by decide +kernel
theorem dX2_beats_43 : decode cX2_beats 43 = .ok (.idiv, 1) := by decide +kernel
theorem dX2_beats_44 : decode cX2_beats 44 = .ok (.iload_n 2, 1) := by decide +kernel
theorem dX2_beats_45 : decode cX2_beats 45 = .ok (.if_icmp .ne 7, 3) := by decide +kernel
theorem dX2_beats_48 : decode cX2_beats 48 = .ok (.iconst 1, 1) := by decide +kernel
theorem dX2_beats_49 : decode cX2_beats 49 = .ok (.goto 4, 3) := by decide +kernel
theorem dX2_beats_52 : decode cX2_beats 52 = .ok (.iconst 0, 1) := by decide +kernel
theorem dX2_beats_53 : decode cX2_beats 53 = .ok (.ireturn, 1) := by decide +kernel
set_option maxRecDepth 20000 in
theorem ggX2_reasonAgainstLeading_X2_isMildew : GoodIn wsX2_reasonAgainstLeading wsX2_isMildew := goodIn_r _ [5] (by decide +kernel) (by decide +kernel)
set_option maxRecDepth 20000 in
theorem gX2_reasonAgainstLeading_X2_isMildew : GoodIn wsX2_reasonAgainstLeading (va_wsS RX2 64 yX2_isMildew wsX2_isMildew) := goodIn_app (goodIn_of _ (by decide +kernel)) ggX2_reasonAgainstLeading_X2_isMildew
theorem dX2_reasonAgainstLeading_0 : decode cX2_reasonAgainstLeading 0 = .ok (.iload_n 2, 1) := by decide +kernel
theorem dX2_reasonAgainstLeading_1 : decode cX2_reasonAgainstLeading 1 = .ok (.invokestatic 64, 3) := by decide +kernel
theorem dX2_reasonAgainstLeading_4 : decode cX2_reasonAgainstLeading 4 = .ok (.ifCond .eq 17, 3) := by decide +kernel
theorem dX2_reasonAgainstLeading_7 : decode cX2_reasonAgainstLeading 7 = .ok (.lload_n 0, 1) := by decide +kernel
theorem dX2_reasonAgainstLeading_8 : decode cX2_reasonAgainstLeading 8 = .ok (.ldc2_w 220, 3) := by decide +kernel
theorem dX2_reasonAgainstLeading_11 : decode cX2_reasonAgainstLeading 11 = .ok (.land, 1) := by decide +kernel
theorem dX2_reasonAgainstLeading_12 : decode cX2_reasonAgainstLeading 12 = .ok (.lconst 0, 1) := by decide +kernel
theorem dX2_reasonAgainstLeading_13 : decode cX2_reasonAgainstLeading 13 = .ok (.lcmp, 1) := by decide +kernel
theorem dX2_reasonAgainstLeading_14 : decode cX2_reasonAgainstLeading 14 = .ok (.ifCond .eq 7, 3) := by decide +kernel
theorem dX2_reasonAgainstLeading_17 : decode cX2_reasonAgainstLeading 17 = .ok (.iconst 3, 1) := by decide +kernel
theorem dX2_reasonAgainstLeading_18 : decode cX2_reasonAgainstLeading 18 = .ok (.goto 4, 3) := by decide +kernel
theorem dX2_reasonAgainstLeading_21 : decode cX2_reasonAgainstLeading 21 = .ok (.iconst 0, 1) := by decide +kernel
theorem dX2_reasonAgainstLeading_22 : decode cX2_reasonAgainstLeading 22 = .ok (.ireturn, 1) := by decide +kernel
set_option maxRecDepth 20000 in
theorem ggX2_reasonAgainstReplying_X2_isMildew : GoodIn wsX2_reasonAgainstReplying wsX2_isMildew := goodIn_r _ [4] (by decide +kernel) (by decide +kernel)
set_option maxRecDepth 20000 in
theorem gX2_reasonAgainstReplying_X2_isMildew : GoodIn wsX2_reasonAgainstReplying (va_wsS RX2 64 yX2_isMildew wsX2_isMildew) := goodIn_app (goodIn_of _ (by decide +kernel)) ggX2_reasonAgainstReplying_X2_isMildew
set_option maxRecDepth 20000 in
theorem ggX2_reasonAgainstReplying_X2_allOf : GoodIn wsX2_reasonAgainstReplying wsX2_allOf := goodIn_r _ [7, 8] (by decide +kernel) (by decide +kernel)
set_option maxRecDepth 20000 in
theorem gX2_reasonAgainstReplying_X2_allOf : GoodIn wsX2_reasonAgainstReplying (va_wsS RX2 222 yX2_allOf wsX2_allOf) := goodIn_app (goodIn_of _ (by decide +kernel)) ggX2_reasonAgainstReplying_X2_allOf
set_option maxRecDepth 20000 in
theorem ggX2_reasonAgainstReplying_X2_has : GoodIn wsX2_reasonAgainstReplying wsX2_has := goodIn_r _ [11] (by decide +kernel) (by decide +kernel)
set_option maxRecDepth 20000 in
theorem gX2_reasonAgainstReplying_X2_has : GoodIn wsX2_reasonAgainstReplying (va_wsS RX2 124 yX2_has wsX2_has) := goodIn_app (goodIn_of _ (by decide +kernel)) ggX2_reasonAgainstReplying_X2_has
theorem dX2_reasonAgainstReplying_0 : decode cX2_reasonAgainstReplying 0 = .ok (.iload_n 3, 1) := by decide +kernel
theorem dX2_reasonAgainstReplying_1 : decode cX2_reasonAgainstReplying 1 = .ok (.invokestatic 64, 3) := by decide +kernel
theorem dX2_reasonAgainstReplying_4 : decode cX2_reasonAgainstReplying 4 = .ok (.ifCond .eq 5, 3) := by decide +kernel
theorem dX2_reasonAgainstReplying_7 : decode cX2_reasonAgainstReplying 7 = .ok (.iconst 0, 1) := by decide +kernel
theorem dX2_reasonAgainstReplying_8 : decode cX2_reasonAgainstReplying 8 = .ok (.ireturn, 1) := by decide +kernel
theorem dX2_reasonAgainstReplying_9 : decode cX2_reasonAgainstReplying 9 = .ok (.lload_n 0, 1) := by decide +kernel
theorem dX2_reasonAgainstReplying_10 : decode cX2_reasonAgainstReplying 10 = .ok (.iload_n 3, 1) := by decide +kernel
theorem dX2_reasonAgainstReplying_11 : decode cX2_reasonAgainstReplying 11 = .ok (.bipush 10, 2) := by decide +kernel
theorem dX2_reasonAgainstReplying_13 : decode cX2_reasonAgainstReplying 13 = .ok (.idiv, 1) := by decide +kernel
theorem dX2_reasonAgainstReplying_14 : decode cX2_reasonAgainstReplying 14 = .ok (.invokestatic 222, 3) := by decide +kernel
theorem dX2_reasonAgainstReplying_17 : decode cX2_reasonAgainstReplying 17 = .ok (.land, 1) := by decide +kernel
theorem dX2_reasonAgainstReplying_18 : decode cX2_reasonAgainstReplying 18 = .ok (.lstore 5, 2) := by decide +kernel
theorem dX2_reasonAgainstReplying_20 : decode cX2_reasonAgainstReplying 20 = .ok (.lload 5, 2) := by decide +kernel
theorem dX2_reasonAgainstReplying_22 : decode cX2_reasonAgainstReplying 22 = .ok (.lconst 0, 1) := by decide +kernel
theorem dX2_reasonAgainstReplying_23 : decode cX2_reasonAgainstReplying 23 = .ok (.lcmp, 1) := by decide +kernel
theorem dX2_reasonAgainstReplying_24 : decode cX2_reasonAgainstReplying 24 = .ok (.ifCond .eq 18, 3) := by decide +kernel
theorem dX2_reasonAgainstReplying_27 : decode cX2_reasonAgainstReplying 27 = .ok (.lload 5, 2) := by decide +kernel
theorem dX2_reasonAgainstReplying_29 : decode cX2_reasonAgainstReplying 29 = .ok (.iload_n 2, 1) := by decide +kernel
theorem dX2_reasonAgainstReplying_30 : decode cX2_reasonAgainstReplying 30 = .ok (.invokestatic 124, 3) := by decide +kernel
theorem dX2_reasonAgainstReplying_33 : decode cX2_reasonAgainstReplying 33 = .ok (.ifCond .eq 7, 3) := by decide +kernel
theorem dX2_reasonAgainstReplying_36 : decode cX2_reasonAgainstReplying 36 = .ok (.iconst 0, 1) := by decide +kernel
theorem dX2_reasonAgainstReplying_37 : decode cX2_reasonAgainstReplying 37 = .ok (.goto 4, 3) := by decide +kernel
theorem dX2_reasonAgainstReplying_40 : decode cX2_reasonAgainstReplying 40 = .ok (.iconst 4, 1) := by decide +kernel
theorem dX2_reasonAgainstReplying_41 : decode cX2_reasonAgainstReplying 41 = .ok (.ireturn, 1) := by decide +kernel
theorem dX2_reasonAgainstReplying_42 : decode cX2_reasonAgainstReplying 42 = .ok (.lload_n 0, 1) := by decide +kernel
theorem dX2_reasonAgainstReplying_43 : decode cX2_reasonAgainstReplying 43 = .ok (.iload 4, 2) := by decide +kernel
theorem dX2_reasonAgainstReplying_45 : decode cX2_reasonAgainstReplying 45 = .ok (.invokestatic 222, 3) := by decide +kernel
theorem dX2_reasonAgainstReplying_48 : decode cX2_reasonAgainstReplying 48 = .ok (.land, 1) := by decide +kernel
theorem dX2_reasonAgainstReplying_49 : decode cX2_reasonAgainstReplying 49 = .ok (.lstore 7, 2) := by decide +kernel
theorem dX2_reasonAgainstReplying_51 : decode cX2_reasonAgainstReplying 51 = .ok (.lload 7, 2) := by decide +kernel
theorem dX2_reasonAgainstReplying_53 : decode cX2_reasonAgainstReplying 53 = .ok (.lconst 0, 1) := by decide +kernel
theorem dX2_reasonAgainstReplying_54 : decode cX2_reasonAgainstReplying 54 = .ok (.lcmp, 1) := by decide +kernel
theorem dX2_reasonAgainstReplying_55 : decode cX2_reasonAgainstReplying 55 = .ok (.ifCond .eq 18, 3) := by decide +kernel
theorem dX2_reasonAgainstReplying_58 : decode cX2_reasonAgainstReplying 58 = .ok (.lload 7, 2) := by decide +kernel
theorem dX2_reasonAgainstReplying_60 : decode cX2_reasonAgainstReplying 60 = .ok (.iload_n 2, 1) := by decide +kernel
theorem dX2_reasonAgainstReplying_61 : decode cX2_reasonAgainstReplying 61 = .ok (.invokestatic 124, 3) := by decide +kernel
theorem dX2_reasonAgainstReplying_64 : decode cX2_reasonAgainstReplying 64 = .ok (.ifCond .eq 7, 3) := by decide +kernel
theorem dX2_reasonAgainstReplying_67 : decode cX2_reasonAgainstReplying 67 = .ok (.iconst 0, 1) := by decide +kernel
theorem dX2_reasonAgainstReplying_68 : decode cX2_reasonAgainstReplying 68 = .ok (.goto 4, 3) := by decide +kernel
theorem dX2_reasonAgainstReplying_71 : decode cX2_reasonAgainstReplying 71 = .ok (.iconst 5, 1) := by decide +kernel
theorem dX2_reasonAgainstReplying_72 : decode cX2_reasonAgainstReplying 72 = .ok (.ireturn, 1) := by decide +kernel
theorem dX2_reasonAgainstReplying_73 : decode cX2_reasonAgainstReplying 73 = .ok (.iconst 0, 1) := by decide +kernel
theorem dX2_reasonAgainstReplying_74 : decode cX2_reasonAgainstReplying 74 = .ok (.ireturn, 1) := by decide +kernel
end
section
theorem dJ13_bitCount_95d88_0 : decode cJ13_bitCount_95d88 0 = .ok (.lload_n 0, 1) := by decide +kernel
theorem dJ13_bitCount_95d88_1 : decode cJ13_bitCount_95d88 1 = .ok (.lload_n 0, 1) := by decide +kernel
theorem dJ13_bitCount_95d88_2 : decode cJ13_bitCount_95d88 2 = .ok (.iconst 1, 1) := by decide +kernel
theorem dJ13_bitCount_95d88_3 : decode cJ13_bitCount_95d88 3 = .ok (.lushr, 1) := by decide +kernel
theorem dJ13_bitCount_95d88_4 : decode cJ13_bitCount_95d88 4 = .ok (.ldc2_w 314, 3) := by decide +kernel
theorem dJ13_bitCount_95d88_7 : decode cJ13_bitCount_95d88 7 = .ok (.land, 1) := by decide +kernel
theorem dJ13_bitCount_95d88_8 : decode cJ13_bitCount_95d88 8 = .ok (.lsub, 1) := by decide +kernel
theorem dJ13_bitCount_95d88_9 : decode cJ13_bitCount_95d88 9 = .ok (.lstore_n 0, 1) := by decide +kernel
theorem dJ13_bitCount_95d88_10 : decode cJ13_bitCount_95d88 10 = .ok (.lload_n 0, 1) := by decide +kernel
theorem dJ13_bitCount_95d88_11 : decode cJ13_bitCount_95d88 11 = .ok (.ldc2_w 316, 3) := by decide +kernel
theorem dJ13_bitCount_95d88_14 : decode cJ13_bitCount_95d88 14 = .ok (.land, 1) := by decide +kernel
theorem dJ13_bitCount_95d88_15 : decode cJ13_bitCount_95d88 15 = .ok (.lload_n 0, 1) := by decide +kernel
theorem dJ13_bitCount_95d88_16 : decode cJ13_bitCount_95d88 16 = .ok (.iconst 2, 1) := by decide +kernel
theorem dJ13_bitCount_95d88_17 : decode cJ13_bitCount_95d88 17 = .ok (.lushr, 1) := by decide +kernel
theorem dJ13_bitCount_95d88_18 : decode cJ13_bitCount_95d88 18 = .ok (.ldc2_w 316, 3) := by decide +kernel
theorem dJ13_bitCount_95d88_21 : decode cJ13_bitCount_95d88 21 = .ok (.land, 1) := by decide +kernel
theorem dJ13_bitCount_95d88_22 : decode cJ13_bitCount_95d88 22 = .ok (.ladd, 1) := by decide +kernel
theorem dJ13_bitCount_95d88_23 : decode cJ13_bitCount_95d88 23 = .ok (.lstore_n 0, 1) := by decide +kernel
theorem dJ13_bitCount_95d88_24 : decode cJ13_bitCount_95d88 24 = .ok (.lload_n 0, 1) := by decide +kernel
theorem dJ13_bitCount_95d88_25 : decode cJ13_bitCount_95d88 25 = .ok (.lload_n 0, 1) := by decide +kernel
theorem dJ13_bitCount_95d88_26 : decode cJ13_bitCount_95d88 26 = .ok (.iconst 4, 1) := by decide +kernel
theorem dJ13_bitCount_95d88_27 : decode cJ13_bitCount_95d88 27 = .ok (.lushr, 1) := by decide +kernel
theorem dJ13_bitCount_95d88_28 : decode cJ13_bitCount_95d88 28 = .ok (.ladd, 1) := by decide +kernel
theorem dJ13_bitCount_95d88_29 : decode cJ13_bitCount_95d88 29 = .ok (.ldc2_w 318, 3) := by decide +kernel
theorem dJ13_bitCount_95d88_32 : decode cJ13_bitCount_95d88 32 = .ok (.land, 1) := by decide +kernel
theorem dJ13_bitCount_95d88_33 : decode cJ13_bitCount_95d88 33 = .ok (.lstore_n 0, 1) := by decide +kernel
theorem dJ13_bitCount_95d88_34 : decode cJ13_bitCount_95d88 34 = .ok (.lload_n 0, 1) := by decide +kernel
theorem dJ13_bitCount_95d88_35 : decode cJ13_bitCount_95d88 35 = .ok (.lload_n 0, 1) := by decide +kernel
theorem dJ13_bitCount_95d88_36 : decode cJ13_bitCount_95d88 36 = .ok (.bipush 8, 2) := by decide +kernel
theorem dJ13_bitCount_95d88_38 : decode cJ13_bitCount_95d88 38 = .ok (.lushr, 1) := by decide +kernel
theorem dJ13_bitCount_95d88_39 : decode cJ13_bitCount_95d88 39 = .ok (.ladd, 1) := by decide +kernel
theorem dJ13_bitCount_95d88_40 : decode cJ13_bitCount_95d88 40 = .ok (.lstore_n 0, 1) := by decide +kernel
theorem dJ13_bitCount_95d88_41 : decode cJ13_bitCount_95d88 41 = .ok (.lload_n 0, 1) := by decide +kernel
theorem dJ13_bitCount_95d88_42 : decode cJ13_bitCount_95d88 42 = .ok (.lload_n 0, 1) := by decide +kernel
theorem dJ13_bitCount_95d88_43 : decode cJ13_bitCount_95d88 43 = .ok (.bipush 16, 2) := by decide +kernel
theorem dJ13_bitCount_95d88_45 : decode cJ13_bitCount_95d88 45 = .ok (.lushr, 1) := by decide +kernel
theorem dJ13_bitCount_95d88_46 : decode cJ13_bitCount_95d88 46 = .ok (.ladd, 1) := by decide +kernel
theorem dJ13_bitCount_95d88_47 : decode cJ13_bitCount_95d88 47 = .ok (.lstore_n 0, 1) := by decide +kernel
theorem dJ13_bitCount_95d88_48 : decode cJ13_bitCount_95d88 48 = .ok (.lload_n 0, 1) := by decide +kernel
theorem dJ13_bitCount_95d88_49 : decode cJ13_bitCount_95d88 49 = .ok (.lload_n 0, 1) := by decide +kernel
theorem dJ13_bitCount_95d88_50 : decode cJ13_bitCount_95d88 50 = .ok (.bipush 32, 2) := by decide +kernel
theorem dJ13_bitCount_95d88_52 : decode cJ13_bitCount_95d88 52 = .ok (.lushr, 1) := by decide +kernel
theorem dJ13_bitCount_95d88_53 : decode cJ13_bitCount_95d88 53 = .ok (.ladd, 1) := by decide +kernel
theorem dJ13_bitCount_95d88_54 : decode cJ13_bitCount_95d88 54 = .ok (.lstore_n 0, 1) := by decide +kernel
theorem dJ13_bitCount_95d88_55 : decode cJ13_bitCount_95d88 55 = .ok (.lload_n 0, 1) := by decide +kernel
theorem dJ13_bitCount_95d88_56 : decode cJ13_bitCount_95d88 56 = .ok (.l2i, 1) := by decide +kernel
theorem dJ13_bitCount_95d88_57 : decode cJ13_bitCount_95d88 57 = .ok (.bipush 127, 2) := by decide +kernel
theorem dJ13_bitCount_95d88_59 : decode cJ13_bitCount_95d88 59 = .ok (.iand, 1) := by decide +kernel
theorem dJ13_bitCount_95d88_60 : decode cJ13_bitCount_95d88 60 = .ok (.ireturn, 1) := by decide +kernel
end
section
/-! SHORT ROWS over the kit's: contracts of methods that read, of methods that write; their starts, calls and ends -/
def jN (U : State) : Prop := True ∧ True ∧ True ∧ True ∧ True ∧ True ∧ va_Nw (.methodLinkNest RX2 15 yX0_init RX2) U ∧ True
theorem jN.warm {s U : State} (hW : s.WarmedH U.vm) (h : jN s) : jN U := ⟨trivial, trivial, trivial, trivial, trivial, trivial, va_Nw.warmM hW h.2.2.2.2.2.2.1, trivial⟩
theorem jN.same {u U : State} (h : u.vm = U.vm) (g : jN u) : jN U := ⟨trivial, trivial, trivial, trivial, trivial, trivial, va_Nw.same rfl h g.2.2.2.2.2.2.1, trivial⟩
/-- the start of a method that reads -/
def jPr (D : va_G) (av : List Value) (ws : va_W) (tys : List (ClassId × FieldType)) : Array Value → State → Prop := va_Pc av (fun U => va_P D vwCl ws U.heap ∧ va_K D vwCl tys U ∧ jN U)
theorem jPr_blind {D : va_G} {av : List Value} {ws : va_W} {tys : List (ClassId × FieldType)} : FrameBlind (jPr D av ws tys) := fun a U g mk q => ⟨q.1, q.2.1, va_K.moved (u := U) (U := U.calling g mk a) (Vm.Alike.refl U.vm) q.2.2.1, jN.same (u := U) (U := U.calling g mk a) rfl q.2.2.2⟩
/-- a method that reads: its answer is r, no cell changes -/
abbrev jR (l : Launch) (y : MethodName) (wl : List Cond) (rm : Room) (D : va_G) (av : List Value) (ws : va_W) (tys : List (ClassId × FieldType)) (r : Value) : Prop := Met l y wl rm (jPr D av ws tys) (k2_QcV r) 0 0 (fun _ => False)
theorem jR_of {l : Launch} {y : MethodName} {wl ws' : List Cond} {rm : Room} {D : va_G} {av : List Value} {ws : va_W} {tys : List (ClassId × FieldType)} {r : Value} {cc : ByteArray} {maxL : Nat} {ret : Option FieldType}
    (hy : plainName y.cls = true) (hw : wl = Cond.code y cc maxL ret :: ws') (hn : (lg_sl av).length ≤ maxL)
    (body : ∀ (p : Program) (e : Env) (s : State) (m : MethodId) (below : List Frame) (meth : Method) (c : Code) (ls : Array Slot), CallFix p m c cc maxL s av.toArray wl y.cls → meth.sig.returnType = ret → meth.locks = false →
      va_P D vwCl ws s.heap → va_K D vwCl tys s → jN s → lv_has ls maxL (lv_args 0 av) →
      W p l e rm s m av.toArray below meth c s.heap [] 0 0 (MQ below (k2_QcV r) av.toArray s 0 0 (fun _ => False)) (F0 m 0 ls [])) : jR l y wl rm D av ws tys r := by
  refine Met.ofW (cc := cc) (maxL := maxL) (ret := ret) hy hw ?_
  intro p e s m args below meth c s₁ B hml hv
  obtain ⟨rfl, hP, hK, hN⟩ := hv
  have hts := atoms_spec (ws := wl) B.pre
  have hown : s.vm.findClass y.cls = some m.cls := findClass_of_methodNamed B.named
  have hl := lv_entry av (n := maxL) hn
  rw [lg_entry_eq]
  exact body p e s m below meth c _ ⟨B.exec, B.bytes, hml, hown, hts⟩ B.returns B.notSynchronized hP hK hN hl
section JR
variable {p : Program} {l : Launch} {e : Env} {R : Room} {s : State} {m : MethodId} {args : Array Value} {below : List Frame} {meth : Method} {c : Code} {H : Heap} {locs : List Loc} {cells slots : Nat} {Q : State → Prop}
variable {cc bytes : ByteArray} {pc index n : Nat} {ls : Array Slot} {rest st0 : List Value} {nL maxL : Nat} {Ts wl wl' : List Cond} {own C host : String} {y : MethodName} {rm : Room} {ret : Option FieldType} {D : va_G} {As : List Value} {wd wb : va_W} {tys tyb : List (ClassId × FieldType)} {r : Value} {b : Nat}
/-- a static method that reads is called -/
theorem jr_callS (S : CallFix p m c cc nL s args Ts own) (hM : jR l y wl rm D As wd tys r) (hT : GoodIn Ts (va_wsS own index y wl)) (hw : wl = Cond.code y bytes maxL ret :: wl') (hd : y.cls ≠ "java/lang/invoke/MethodHandle" ∧ y.cls ≠ "java/lang/invoke/VarHandle" ∧ (parseMethodDescriptor y.desc).map (fun d => d.parameters.length) = some n) (hn : As.length = n)
    (hR : (rm.cells = 0 ∧ rm.slots = 0) ∧ (rm.frames + 1 ≤ R.frames ∧ 8 + (maxL + 11) + rm.locals ≤ R.locals) ∧ cells ≤ R.cells ∧ slots ≤ R.slots) (hP : va_P D vwCl wb H) (hK : va_K D vwCl tyb s) (hN : jN s) (is ts : List Nat) (hi : is.filterMap (fun i => wb[i]?) = wd) (ht : ts.filterMap (fun i => tyb[i]?) = tys)
    (hl : lv_has ls nL []) (hst : st0 = As.reverse ++ rest) (hW : (rest.map fun v => v.category).sum ≤ 8) (hdg : decode cc pc = .ok (.invokestatic index, 3))
    (kk : W p l e R s m args below meth c H locs cells slots Q (F0 m (pc + 3) ls (r :: rest))) : W p l e R s m args below meth c H locs cells slots Q (F0 m pc ls st0) := by
  have hPc := hP.sub is hi
  have hKc := hK.sub ts ht
  exact W.callV (va_runS (As := As) (rest := rest) S hM (va_cwS n S.2.2.2.2 hT hw hR.1.1 hR.1.2 hd hR.2.1) ⟨jPr_blind, fun U hU hW => ⟨rfl, by rw [hU]; exact hPc, va_K.moved hW.alike hKc, jN.warm hW hN⟩⟩ rfl hn hl.1 hst (lv_room hW) hdg ⟨hR.2.2.1, hR.2.2.2⟩).run kk
/-- .. of a nest mate -/
theorem jr_callSN (S : CallFix p m c cc nL s args Ts own) (hM : jR l y wl rm D As wd tys r) (hT : GoodIn Ts wl) (hw : wl = Cond.code y bytes maxL ret :: wl') (hlk : va_Nw (.methodLinkNest own index y host) s) (hini : (Cond.initialized y.cls).before args s = true) (hsta : (Cond.static y).before args s = true) (hd : y.cls ≠ "java/lang/invoke/MethodHandle" ∧ y.cls ≠ "java/lang/invoke/VarHandle" ∧ (parseMethodDescriptor y.desc).map (fun d => d.parameters.length) = some n) (hn : As.length = n)
    (hR : (rm.cells = 0 ∧ rm.slots = 0) ∧ (rm.frames + 1 ≤ R.frames ∧ 8 + (maxL + 11) + rm.locals ≤ R.locals) ∧ cells ≤ R.cells ∧ slots ≤ R.slots) (hP : va_P D vwCl wb H) (hK : va_K D vwCl tyb s) (hN : jN s) (is ts : List Nat) (hi : is.filterMap (fun i => wb[i]?) = wd) (ht : ts.filterMap (fun i => tyb[i]?) = tys)
    (hl : lv_has ls nL []) (hst : st0 = As.reverse ++ rest) (hW : (rest.map fun v => v.category).sum ≤ 8) (hdg : decode cc pc = .ok (.invokestatic index, 3))
    (kk : W p l e R s m args below meth c H locs cells slots Q (F0 m (pc + 3) ls (r :: rest))) : W p l e R s m args below meth c H locs cells slots Q (F0 m pc ls st0) := by
  have hPc := hP.sub is hi
  have hKc := hK.sub ts ht
  exact W.callV (va_runSN (As := As) (rest := rest) S hM ⟨va_cnB n S.2.2.2.2 hT hw hR.1.1 hR.1.2 hlk hini hd hR.2.1, hsta, trivial⟩ ⟨jPr_blind, fun U hU hW => ⟨rfl, by rw [hU]; exact hPc, va_K.moved hW.alike hKc, jN.warm hW hN⟩⟩ rfl hn hl.1 hst (lv_room hW) hdg ⟨hR.2.2.1, hR.2.2.2⟩).run kk
/-- a method of an object that reads -/
theorem jr_callV (S : CallFix p m c cc nL s args Ts own) (hM : jR l y wl rm D (.ref b :: As) wd tys r) (hT : GoodIn Ts (wsV own index C y wl)) (hw : wl = Cond.code y bytes maxL ret :: wl') (hd : y.cls = C ∧ y.cls ≠ "java/lang/invoke/MethodHandle" ∧ y.cls ≠ "java/lang/invoke/VarHandle" ∧ (parseMethodDescriptor y.desc).map (fun d => d.parameters.length) = some n) (hn : As.length = n)
    (hR : (rm.cells = 0 ∧ rm.slots = 0) ∧ (rm.frames + 1 ≤ R.frames ∧ 8 + (maxL + 11) + rm.locals ≤ R.locals) ∧ cells ≤ R.cells ∧ slots ≤ R.slots) (hP : va_P D vwCl wb H) (hK : va_K D vwCl tyb s) (hN : jN s) (is ts : List Nat) (hi : is.filterMap (fun i => wb[i]?) = wd) (ht : ts.filterMap (fun i => tyb[i]?) = tys)
    (q0 ci : Nat) {q : vw_C} {fs : List Value} (hc : vwCl[ci]? = some q) (hqC : q.1 = C) (he : wd[q0]? = some (b, .inr (ci, fs)))
    (hl : lv_has ls nL []) (hst : st0 = As.reverse ++ .ref b :: rest) (hW : (rest.map fun v => v.category).sum ≤ 8) (hdg : decode cc pc = .ok (.invokevirtual index, 3))
    (kk : W p l e R s m args below meth c H locs cells slots Q (F0 m (pc + 3) ls (r :: rest))) : W p l e R s m args below meth c H locs cells slots Q (F0 m pc ls st0) := by
  have hPc := hP.sub is hi
  have hKc := hK.sub ts ht
  subst hqC
  exact W.callV (va_runV (As := As) (rest := rest) S hM (cwV n S.2.2.2.2 hT hw hR.1.1 hR.1.2 hd hR.2.1) ⟨jPr_blind, va_recv hKc hPc (ci := ci) (q0 := q0) hc he, fun U hU hW => ⟨rfl, by rw [hU]; exact hPc, va_K.moved hW.alike hKc, jN.warm hW hN⟩⟩ rfl hn hl.1 hst (lv_room hW) hdg ⟨hR.2.2.1, hR.2.2.2⟩).run kk
theorem lv_nil {lv : List (Nat × Value)} (h : lv_has ls nL lv) : lv_has ls nL [] := lv_sub h [] rfl
theorem jr_no {free : Addr → Prop} : ∀ q ∈ ([] : List Loc), free q.base := fun _ h => absurd h List.not_mem_nil
theorem jr_iret {v z : Int32} (hx : p.tables.exec = Jvm.exec) (hb : c.code = cc) (hr : meth.sig.returnType = some .int) (hlocks : meth.locks = false) (hdg : decode cc pc = .ok (.ireturn, 1)) (hv : v = z) : W p l e R s m args below meth c s.heap [] 0 0 (MQ below (k2_QcV (.int z)) args s 0 0 (fun _ => False)) (F0 m pc ls [.int v]) := by
  subst hv
  exact W.iret hx hb hr (fun t ht hW => ⟨rfl, ht⟩) jr_no hdg
theorem jr_zret {v z : Int32} (hx : p.tables.exec = Jvm.exec) (hb : c.code = cc) (hr : meth.sig.returnType = some .boolean) (hlocks : meth.locks = false) (hdg : decode cc pc = .ok (.ireturn, 1)) (hn : narrow .boolean (.int v) = .int v) (hv : v = z) : W p l e R s m args below meth c s.heap [] 0 0 (MQ below (k2_QcV (.int z)) args s 0 0 (fun _ => False)) (F0 m pc ls [.int v]) := by
  subst hv
  exact W.zret hx hb hr hn (fun t ht hW => ⟨rfl, ht⟩) jr_no hdg
theorem jr_lret {v z : Int64} (hx : p.tables.exec = Jvm.exec) (hb : c.code = cc) (hr : meth.sig.returnType = some .long) (hlocks : meth.locks = false) (hdg : decode cc pc = .ok (.lreturn, 1)) (hv : v = z) : W p l e R s m args below meth c s.heap [] 0 0 (MQ below (k2_QcV (.long z)) args s 0 0 (fun _ => False)) (F0 m pc ls [.long v]) := by
  subst hv
  exact W.lret hx hb hr (fun t ht hW => ⟨rfl, ht⟩) jr_no hdg
theorem jr_aret {v z : Nat} {nm : String} (hx : p.tables.exec = Jvm.exec) (hb : c.code = cc) (hr : meth.sig.returnType = some (.object nm)) (hlocks : meth.locks = false) (hdg : decode cc pc = .ok (.areturn, 1)) (hv : v = z) : W p l e R s m args below meth c s.heap [] 0 0 (MQ below (k2_QcV (.ref z)) args s 0 0 (fun _ => False)) (F0 m pc ls [.ref v]) := by
  subst hv
  exact W.aret hx hb hr (Or.inl ⟨nm, rfl⟩) (Or.inr ⟨v, rfl⟩) (fun t ht hW => ⟨rfl, ht⟩) jr_no hdg
theorem jr_ite {c0 : Prop} [Decidable c0] {a b z : Nat} (hz : z = if c0 then a else b) (kt : c0 → W p l e R s m args below meth c H locs cells slots Q (F0 m pc ls (.ref a :: rest))) (kf : ¬ c0 → W p l e R s m args below meth c H locs cells slots Q (F0 m pc ls (.ref b :: rest))) : W p l e R s m args below meth c H locs cells slots Q (F0 m pc ls (.ref z :: rest)) := by
  subst hz
  by_cases h : c0
  · rw [if_pos h]; exact kt h
  · rw [if_neg h]; exact kf h
theorem jr_iteT {c0 : Prop} [Decidable c0] {a b z : Nat} (h : c0) (hz : z = if c0 then a else b) (kt : W p l e R s m args below meth c H locs cells slots Q (F0 m pc ls (.ref a :: rest))) : W p l e R s m args below meth c H locs cells slots Q (F0 m pc ls (.ref z :: rest)) := by
  subst hz; rw [if_pos h]; exact kt
theorem jr_iteF {c0 : Prop} [Decidable c0] {a b z : Nat} (h : ¬ c0) (hz : z = if c0 then a else b) (kf : W p l e R s m args below meth c H locs cells slots Q (F0 m pc ls (.ref b :: rest))) : W p l e R s m args below meth c H locs cells slots Q (F0 m pc ls (.ref z :: rest)) := by
  subst hz; rw [if_neg h]; exact kf
end JR
theorem jx_in {x n : Int32} {N : Nat} (h0 : ¬ x < 0) (h1 : ¬ n ≤ x) (e : n = nI N) (hN : N < 2 ^ 31) : vp_in x N := by
  subst e
  rcases pk_ix x hN with h | h | ⟨j, hj, rfl⟩
  · exact absurd h h0
  · exact absurd h h1
  · exact vp_in_nI hj hN
theorem jx_held {a : Int32} (ha : a = 0 ∨ a = 1) {i : Nat} (hi : i < 6) : vp_in (6 * a + nI i) 12 := by
  rcases ha with rfl | rfl
  · rw [show (6 : Int32) * 0 + nI i = nI (0 + i) from by rw [← nI_add]; rfl]; exact vp_in_nI (by omega) (by decide)
  · rw [show (6 : Int32) * 1 + nI i = nI (6 + i) from by rw [← nI_add]; rfl]; exact vp_in_nI (by omega) (by decide)
theorem jx_flip {a : Int32} (ha : a = 0 ∨ a = 1) : 1 - a = 0 ∨ 1 - a = 1 := by
  rcases ha with rfl | rfl
  · exact Or.inr (by decide)
  · exact Or.inl (by decide)
theorem jx_heldv {a b : Int32} (ha : a = 0 ∨ a = 1) (hb : vp_in b 6) : vp_in (6 * a + b) 12 := by
  obtain ⟨i, hi, rfl⟩ := vp_in_of hb (by decide)
  exact jx_held ha hi
theorem jx_tab {a b d : Int32} (ha : a = 0 ∨ a = 1) (hb : vp_in b 64) (hd : vp_in d 64) : vp_in (4096 * a + (64 * b + d)) 8192 := by
  obtain ⟨i, hi, rfl⟩ := vp_in_of hb (by decide)
  obtain ⟨j, hj, rfl⟩ := vp_in_of hd (by decide)
  rcases ha with rfl | rfl
  · rw [show (4096 : Int32) * 0 + (64 * nI i + nI j) = nI (0 + (64 * i + j)) from by rw [← nI_add, ← nI_add, ← pk_mul]; rfl]; exact vp_in_nI (by omega) (by decide)
  · rw [show (4096 : Int32) * 1 + (64 * nI i + nI j) = nI (4096 + (64 * i + j)) from by rw [← nI_add, ← nI_add, ← pk_mul]; rfl]; exact vp_in_nI (by omega) (by decide)
theorem jx_and {a b : Int32} (ha : vp_in a 64) : vp_in (a &&& b) 64 := by
  obtain ⟨i, hi, rfl⟩ := vp_in_of ha (by decide)
  have e : nI i &&& b = nI ((nI i &&& b).toBitVec.toNat) := by
    apply Int32.toBitVec_inj.mp
    apply BitVec.eq_of_toNat_eq
    rw [pk_tn (BitVec.isLt _)]
  have h : (nI i &&& b).toBitVec.toNat ≤ i := by
    rw [Int32.toBitVec_and, BitVec.toNat_and, pk_tn (by omega)]
    exact Nat.and_le_left
  rw [e]
  exact vp_in_nI (by omega) (by decide)
theorem jx_ushr33 (a : Int64) : ∃ n : Nat, n < 2 ^ 31 ∧ (a.toUInt64 >>> ((33 : Int32).toInt64.toUInt64 &&& Int64.toUInt64 63)).toInt64 = lN n := by
  refine ⟨a.toUInt64.toNat / 2 ^ 33, ?_, ?_⟩
  · have := a.toUInt64.toNat_lt
    omega
  · have e : (33 : Int32).toInt64.toUInt64 &&& Int64.toUInt64 63 = 33 := by decide
    rw [e]
    apply Int64.toBitVec_inj.mp
    apply BitVec.eq_of_toNat_eq
    have h : (a.toUInt64 >>> (33 : UInt64)).toNat = a.toUInt64.toNat / 2 ^ 33 := by
      rw [UInt64.toNat_shiftRight, Nat.shiftRight_eq_div_pow]; rfl
    have hlt := a.toUInt64.toNat_lt
    show (a.toUInt64 >>> (33 : UInt64)).toNat = (lN (a.toUInt64.toNat / 2 ^ 33)).toBitVec.toNat
    rw [h]
    show _ = (Int64.ofNat _).toBitVec.toNat
    rw [Int64.toBitVec_ofNat', BitVec.toNat_ofNat]
    omega
theorem jx_k1 (i : Nat) (hi : i ≤ 100) : (nI i + 1).toInt64 = lN (i + 1) := by
  rw [nI_1, nI_l (by omega)]
theorem jx_ne {i : Nat} (hi : i + 1 ≤ 41) : ¬ (nI (i + 1) + 1).toInt64 = 0 := by
  rw [jx_k1 _ (by omega), show (0 : Int64) = lN 0 from rfl, lN_eq (by omega) (by omega)]
  omega
theorem jx_other {a : Int64} {i : Nat} (hi : i + 1 ≤ 41) : vp_in ((a.toUInt64 >>> ((33 : Int32).toInt64.toUInt64 &&& Int64.toUInt64 63)).toInt64 - (a.toUInt64 >>> ((33 : Int32).toInt64.toUInt64 &&& Int64.toUInt64 63)).toInt64 / (nI (i + 1) + 1).toInt64 * (nI (i + 1) + 1).toInt64).toInt32 42 := by
  obtain ⟨n, hn, e⟩ := jx_ushr33 a
  rw [e, jx_k1 _ (by omega), pk_lRem (by omega) (by omega) (by omega), lN_i]
  exact vp_in_nI (Nat.lt_of_lt_of_le (Nat.mod_lt _ (by omega)) (by omega)) (by decide)
/-! METHODS THAT WRITE -/
theorem jx_fm {α : Type} {f : Nat → Option α} {is : List Nat} {w : List α} (h : is.map f = w.map some) : is.filterMap f = w := by
  have e : is.filterMap f = (is.map f).filterMap id := by rw [List.filterMap_map]; rfl
  rw [e, h, List.filterMap_map]
  show w.filterMap (fun x => some x) = w
  exact List.filterMap_some
/-- the start of a method that writes -/
def jPw (D : va_G) (av : List Value) (ws : va_W) (tys : List (ClassId × FieldType)) (sz : Nat) : Array Value → State → Prop := va_Pc av (fun U => U.heap.size = sz ∧ va_P D vwCl ws U.heap ∧ va_K D vwCl tys U ∧ jN U ∧ va_D (fun _ => True) ws)
theorem jPw_blind {D : va_G} {av : List Value} {ws : va_W} {tys : List (ClassId × FieldType)} {sz : Nat} : FrameBlind (jPw D av ws tys sz) := fun a U g mk q => ⟨q.1, q.2.1, q.2.2.1, va_K.moved (u := U) (U := U.calling g mk a) (Vm.Alike.refl U.vm) q.2.2.2.1, jN.same (u := U) (U := U.calling g mk a) rfl q.2.2.2.2.1, q.2.2.2.2.2⟩
/-- the world behind it -/
def jB (D : va_G) (ws' : va_W) (tys : List (ClassId × FieldType)) (A : Nat → Prop) : Unit → State → Prop := fun _ t => va_P D vwCl ws' t.heap ∧ va_K D vwCl tys t ∧ va_D A ws'
abbrev jQi (D : va_G) (r : Int32) (ws' : va_W) (tys : List (ClassId × FieldType)) (A : Nat → Prop) : Array Value → State → Outcome → State → Prop := va_Qi (fun (q : Int32) (_ : Unit) => q = r) (jB D ws' tys A) A
abbrev jQv (D : va_G) (ws' : va_W) (tys : List (ClassId × FieldType)) (A : Nat → Prop) : Array Value → State → Outcome → State → Prop := va_Qv (fun (_ : Unit) => True) (jB D ws' tys A) A
/-- a method that writes: its answer is r, the world behind it ws' -/
abbrev jWi (l : Launch) (y : MethodName) (wl : List Cond) (rm : Room) (D : va_G) (av : List Value) (ws : va_W) (tys : List (ClassId × FieldType)) (r : Int32) (ws' : va_W) : Prop := ∀ sz : Nat, Met l y wl rm (jPw D av ws tys sz) (jQi D r ws' tys (va_A ws sz)) 0 0 (va_A ws sz)
abbrev jWv (l : Launch) (y : MethodName) (wl : List Cond) (rm : Room) (D : va_G) (av : List Value) (ws : va_W) (tys : List (ClassId × FieldType)) (ws' : va_W) : Prop := ∀ sz : Nat, Met l y wl rm (jPw D av ws tys sz) (jQv D ws' tys (va_A ws sz)) 0 0 (va_A ws sz)
/-- the start of any method that writes; QQ: its end, over A -/
theorem jW_of {l : Launch} {y : MethodName} {wl wl' : List Cond} {rm : Room} {D : va_G} {av : List Value} {ws : va_W} {tys : List (ClassId × FieldType)} {QQ : (Nat → Prop) → Array Value → State → Outcome → State → Prop} {cc : ByteArray} {maxL mc ms : Nat} {ret : Option FieldType}
    (hy : plainName y.cls = true) (hw : wl = Cond.code y cc maxL ret :: wl') (hn : (lg_sl av).length ≤ maxL)
    (body : ∀ (p : Program) (e : Env) (s : State) (m : MethodId) (below : List Frame) (meth : Method) (c : Code) (ls : Array Slot) (A : Nat → Prop), CallFix p m c cc maxL s av.toArray wl y.cls → meth.sig.returnType = ret → meth.locks = false → meth.name = y.name →
      va_P D vwCl ws s.heap → va_K D vwCl tys s → jN s → va_D A ws → va_S A s.heap s.heap [] → (∀ q : Nat, s.heap.size ≤ q → A q) → lv_has ls maxL (lv_args 0 av) →
      W p l e rm s m av.toArray below meth c s.heap [] 0 0 (MQ below (QQ A) av.toArray s mc ms A) (F0 m 0 ls [])) : ∀ sz : Nat, Met l y wl rm (jPw D av ws tys sz) (QQ (va_A ws sz)) mc ms (va_A ws sz) := by
  intro sz
  refine Met.ofW (cc := cc) (maxL := maxL) (ret := ret) hy hw ?_
  intro p e s m args below meth c s₁ B hml hv
  obtain ⟨rfl, hsz, hP, hK, hN, hD0⟩ := hv
  subst hsz
  have hts := atoms_spec (ws := wl) B.pre
  have hown : s.vm.findClass y.cls = some m.cls := findClass_of_methodNamed B.named
  have hl := lv_entry av (n := maxL) hn
  rw [lg_entry_eq]
  exact body p e s m below meth c _ (va_A ws s.heap.size) ⟨B.exec, B.bytes, hml, hown, hts⟩ B.returns B.notSynchronized (name_of_methodNamed B.named B.method).1 hP hK hN (hD0.self (sz := s.heap.size)) va_S.rf (fun q h => Or.inr h) hl
section JW
variable {p : Program} {l : Launch} {e : Env} {R : Room} {s : State} {m : MethodId} {args : Array Value} {below : List Frame} {meth : Method} {c : Code} {H : Heap} {locs : List Loc} {cells slots : Nat} {Q : State → Prop}
variable {cc bytes : ByteArray} {pc index n : Nat} {ls : Array Slot} {rest st0 : List Value} {nL maxL : Nat} {Ts wl wl' : List Cond} {own C host : String} {y : MethodName} {rm : Room} {ret : Option FieldType} {D : va_G} {As : List Value} {wd wb wr wn ws' : va_W} {tys tyb : List (ClassId × FieldType)} {b : Nat} {A : Nat → Prop}
theorem jw_iret {v z : Int32} (hx : p.tables.exec = Jvm.exec) (hb : c.code = cc) (hr : meth.sig.returnType = some .int) (hlocks : meth.locks = false) (hK : va_K D vwCl tys s) (hP : va_P D vwCl wn H) (hD : va_D A wn) (hS : va_S A s.heap H locs) (hdg : decode cc pc = .ok (.ireturn, 1)) (hv : v = z) (hw : wn = ws') : W p l e R s m args below meth c H locs cells slots (MQ below (jQi D z ws' tys A) args s cells slots A) (F0 m pc ls [.int v]) := by
  subst hv; subst hw
  exact W.iret hx hb hr (fun t ht hW => ⟨⟨v, (), rfl, rfl, by rw [ht]; exact hP, va_K.moved hW.alike hK, hD⟩, hS.F ht⟩) hS.2.2 hdg
theorem jw_vret (hx : p.tables.exec = Jvm.exec) (hb : c.code = cc) (hr : meth.sig.returnType = none) (hlocks : meth.locks = false) (hK : va_K D vwCl tys s) (hP : va_P D vwCl wn H) (hD : va_D A wn) (hS : va_S A s.heap H locs) (hdg : decode cc pc = .ok (.return_, 1)) (hw : wn = ws') : W p l e R s m args below meth c H locs cells slots (MQ below (jQv D ws' tys A) args s cells slots A) (F0 m pc ls []) := by
  subst hw
  exact W.vret hx hb hr (fun t ht hW => ⟨⟨(), rfl, trivial, by rw [ht]; exact hP, va_K.moved hW.alike hK, hD⟩, hS.F ht⟩) hS.2.2 hdg
/-- the joined world, in the order wanted -/
theorem jw_join {H1 : Heap} (hP : va_P D vwCl wb H) (hD : va_D A wb) (isC isR pm : List Nat) (hC : isC.map (fun i => wb[i]?) = wd.map some) (hR : isR.map (fun i => wb[i]?) = wr.map some) (hn : va_nd isR = true) (hdis : ∀ i ∈ isR, i ∉ isC) (hpm : pm.map (fun i => (wr ++ ws')[i]?) = wn.map some) (hnp : va_nd pm = true)
    (hk : ∀ q : Nat, q < H.size → ¬ va_A wd H.size q → H1[q]? = H[q]?) (hF : ∀ q, va_A wd H.size q → A q) (hP1 : va_P D vwCl ws' H1) (hD1 : va_D (va_A wd H.size) ws') : va_P D vwCl wn H1 ∧ va_D A wn := by
  obtain ⟨hP2, hD2⟩ := va_join (wr := wr) (w1 := ws') hP hD isC isR hC hR hn hdis hk hF hP1 hD1
  exact ⟨hP2.sub pm (jx_fm hpm), hD2.sub pm hnp hpm⟩
/-- a method of an object that writes, of no answer -/
theorem jw_callVv (S : CallFix p m c cc nL s args Ts own) (hM : jWv l y wl rm D (.ref b :: As) wd tys ws') (hT : GoodIn Ts (wsV own index C y wl)) (hw : wl = Cond.code y bytes maxL ret :: wl') (hd : y.cls = C ∧ y.cls ≠ "java/lang/invoke/MethodHandle" ∧ y.cls ≠ "java/lang/invoke/VarHandle" ∧ (parseMethodDescriptor y.desc).map (fun d => d.parameters.length) = some n) (hn : As.length = n)
    (hR : (rm.cells = 0 ∧ rm.slots = 0) ∧ (rm.frames + 1 ≤ R.frames ∧ 8 + (maxL + 11) + rm.locals ≤ R.locals) ∧ cells ≤ R.cells ∧ slots ≤ R.slots) (hP : va_P D vwCl wb H) (hK : va_K D vwCl tyb s) (hN : jN s) (hD : va_D A wb) (hS : va_S A s.heap H locs) (hA : ∀ q : Nat, s.heap.size ≤ q → A q) (is ir pm ts : List Nat) (hi : is.map (fun i => wb[i]?) = wd.map some) (hir : ir.map (fun i => wb[i]?) = wr.map some) (hnd : va_nd is = true ∧ va_nd ir = true ∧ va_nd pm = true) (hdis : ∀ i ∈ ir, i ∉ is) (hpm : pm.map (fun i => (wr ++ ws')[i]?) = wn.map some) (ht : ts.filterMap (fun i => tyb[i]?) = tys)
    (q0 ci : Nat) {q : vw_C} {fs : List Value} (hc : vwCl[ci]? = some q) (hqC : q.1 = C) (he : wd[q0]? = some (b, .inr (ci, fs)))
    (hl : lv_has ls nL []) (hst : st0 = As.reverse ++ .ref b :: rest) (hW : (rest.map fun v => v.category).sum ≤ 8) (hdg : decode cc pc = .ok (.invokevirtual index, 3))
    (kk : ∀ (H1 : Heap) (locs1 : List Loc), va_P D vwCl wn H1 → va_D A wn → va_S A s.heap H1 locs1 → W p l e R s m args below meth c H1 locs1 cells slots Q (F0 m (pc + 3) ls rest)) : W p l e R s m args below meth c H locs cells slots Q (F0 m pc ls st0) := by
  have hPc := hP.sub is (jx_fm hi)
  have hKc := hK.sub ts ht
  have hDc := hD.sub is hnd.1 hi
  have hFc := va_free (wc := wd) hD hS hA is hi
  subst hqC
  refine va_callv (va_runV (As := As) (rest := rest) S (hM H.size) (cwV n S.2.2.2.2 hT hw hR.1.1 hR.1.2 hd hR.2.1) ⟨jPw_blind, va_recv hKc hPc (ci := ci) (q0 := q0) hc he, fun U hU hW => ⟨rfl, by rw [hU], by rw [hU]; exact hPc, va_K.moved hW.alike hKc, jN.warm hW hN, hDc.weaken (fun _ _ _ _ => trivial)⟩⟩ rfl hn hl.1 hst (lv_room hW) hdg ⟨hR.2.2.1, hR.2.2.2⟩) hS (fun q _ h => hFc q h) hFc (fun u t H1 locs1 ht hvm hw hB hz1 hk1 hS1 => ?_)
  obtain ⟨hP1, hK1, hD1⟩ := hB
  rw [ht] at hP1
  obtain ⟨hP2, hD2⟩ := jw_join hP hD is ir pm hi hir hnd.2.1 hdis hpm hnd.2.2 hk1 hFc hP1 hD1
  exact kk H1 locs1 hP2 hD2 hS1
/-- a static method that writes -/
theorem jw_callSv (S : CallFix p m c cc nL s args Ts own) (hM : jWv l y wl rm D As wd tys ws') (hT : GoodIn Ts (va_wsS own index y wl)) (hw : wl = Cond.code y bytes maxL ret :: wl') (hd : y.cls ≠ "java/lang/invoke/MethodHandle" ∧ y.cls ≠ "java/lang/invoke/VarHandle" ∧ (parseMethodDescriptor y.desc).map (fun d => d.parameters.length) = some n) (hn : As.length = n)
    (hR : (rm.cells = 0 ∧ rm.slots = 0) ∧ (rm.frames + 1 ≤ R.frames ∧ 8 + (maxL + 11) + rm.locals ≤ R.locals) ∧ cells ≤ R.cells ∧ slots ≤ R.slots) (hP : va_P D vwCl wb H) (hK : va_K D vwCl tyb s) (hN : jN s) (hD : va_D A wb) (hS : va_S A s.heap H locs) (hA : ∀ q : Nat, s.heap.size ≤ q → A q) (is ir pm ts : List Nat) (hi : is.map (fun i => wb[i]?) = wd.map some) (hir : ir.map (fun i => wb[i]?) = wr.map some) (hnd : va_nd is = true ∧ va_nd ir = true ∧ va_nd pm = true) (hdis : ∀ i ∈ ir, i ∉ is) (hpm : pm.map (fun i => (wr ++ ws')[i]?) = wn.map some) (ht : ts.filterMap (fun i => tyb[i]?) = tys)
    (hl : lv_has ls nL []) (hst : st0 = As.reverse ++ rest) (hW : (rest.map fun v => v.category).sum ≤ 8) (hdg : decode cc pc = .ok (.invokestatic index, 3))
    (kk : ∀ (H1 : Heap) (locs1 : List Loc), va_P D vwCl wn H1 → va_D A wn → va_S A s.heap H1 locs1 → W p l e R s m args below meth c H1 locs1 cells slots Q (F0 m (pc + 3) ls rest)) : W p l e R s m args below meth c H locs cells slots Q (F0 m pc ls st0) := by
  have hPc := hP.sub is (jx_fm hi)
  have hKc := hK.sub ts ht
  have hDc := hD.sub is hnd.1 hi
  have hFc := va_free (wc := wd) hD hS hA is hi
  refine va_callv (va_runS (As := As) (rest := rest) S (hM H.size) (va_cwS n S.2.2.2.2 hT hw hR.1.1 hR.1.2 hd hR.2.1) ⟨jPw_blind, fun U hU hW => ⟨rfl, by rw [hU], by rw [hU]; exact hPc, va_K.moved hW.alike hKc, jN.warm hW hN, hDc.weaken (fun _ _ _ _ => trivial)⟩⟩ rfl hn hl.1 hst (lv_room hW) hdg ⟨hR.2.2.1, hR.2.2.2⟩) hS (fun q _ h => hFc q h) hFc (fun u t H1 locs1 ht hvm hw hB hz1 hk1 hS1 => ?_)
  obtain ⟨hP1, hK1, hD1⟩ := hB
  rw [ht] at hP1
  obtain ⟨hP2, hD2⟩ := jw_join hP hD is ir pm hi hir hnd.2.1 hdis hpm hnd.2.2 hk1 hFc hP1 hD1
  exact kk H1 locs1 hP2 hD2 hS1
/-- .. whose answer is an int -/
theorem jw_callVi {r : Int32} (S : CallFix p m c cc nL s args Ts own) (hM : jWi l y wl rm D (.ref b :: As) wd tys r ws') (hT : GoodIn Ts (wsV own index C y wl)) (hw : wl = Cond.code y bytes maxL ret :: wl') (hd : y.cls = C ∧ y.cls ≠ "java/lang/invoke/MethodHandle" ∧ y.cls ≠ "java/lang/invoke/VarHandle" ∧ (parseMethodDescriptor y.desc).map (fun d => d.parameters.length) = some n) (hn : As.length = n)
    (hR : (rm.cells = 0 ∧ rm.slots = 0) ∧ (rm.frames + 1 ≤ R.frames ∧ 8 + (maxL + 11) + rm.locals ≤ R.locals) ∧ cells ≤ R.cells ∧ slots ≤ R.slots) (hP : va_P D vwCl wb H) (hK : va_K D vwCl tyb s) (hN : jN s) (hD : va_D A wb) (hS : va_S A s.heap H locs) (hA : ∀ q : Nat, s.heap.size ≤ q → A q) (is ir pm ts : List Nat) (hi : is.map (fun i => wb[i]?) = wd.map some) (hir : ir.map (fun i => wb[i]?) = wr.map some) (hnd : va_nd is = true ∧ va_nd ir = true ∧ va_nd pm = true) (hdis : ∀ i ∈ ir, i ∉ is) (hpm : pm.map (fun i => (wr ++ ws')[i]?) = wn.map some) (ht : ts.filterMap (fun i => tyb[i]?) = tys)
    (q0 ci : Nat) {q : vw_C} {fs : List Value} (hc : vwCl[ci]? = some q) (hqC : q.1 = C) (he : wd[q0]? = some (b, .inr (ci, fs)))
    (hl : lv_has ls nL []) (hst : st0 = As.reverse ++ .ref b :: rest) (hW : (rest.map fun v => v.category).sum ≤ 8) (hdg : decode cc pc = .ok (.invokevirtual index, 3))
    (kk : ∀ (H1 : Heap) (locs1 : List Loc), va_P D vwCl wn H1 → va_D A wn → va_S A s.heap H1 locs1 → W p l e R s m args below meth c H1 locs1 cells slots Q (F0 m (pc + 3) ls (.int r :: rest))) : W p l e R s m args below meth c H locs cells slots Q (F0 m pc ls st0) := by
  have hPc := hP.sub is (jx_fm hi)
  have hKc := hK.sub ts ht
  have hDc := hD.sub is hnd.1 hi
  have hFc := va_free (wc := wd) hD hS hA is hi
  subst hqC
  refine va_calli (va_runV (As := As) (rest := rest) S (hM H.size) (cwV n S.2.2.2.2 hT hw hR.1.1 hR.1.2 hd hR.2.1) ⟨jPw_blind, va_recv hKc hPc (ci := ci) (q0 := q0) hc he, fun U hU hW => ⟨rfl, by rw [hU], by rw [hU]; exact hPc, va_K.moved hW.alike hKc, jN.warm hW hN, hDc.weaken (fun _ _ _ _ => trivial)⟩⟩ rfl hn hl.1 hst (lv_room hW) hdg ⟨hR.2.2.1, hR.2.2.2⟩) hS (fun q _ h => hFc q h) hFc (fun r' u t H1 locs1 ht hvm hw hB hz1 hk1 hS1 => ?_)
  obtain ⟨hP1, hK1, hD1⟩ := hB
  rw [ht] at hP1
  obtain ⟨hP2, hD2⟩ := jw_join hP hD is ir pm hi hir hnd.2.1 hdis hpm hnd.2.2 hk1 hFc hP1 hD1
  rw [hw]
  exact kk H1 locs1 hP2 hD2 hS1
end JW
abbrev jA (aF : Nat) (vh : Int64) (vt : Int64) (vp : Int32) (vk : Int32) (vg : Int32) : va_W := [(aF, .inr (0, [.long vh, .long vt, .int vp, .int vk, .int vg]))]
abbrev jC (a0 : Nat) (aR : Nat) (aF : Nat) (aG : Nat) (cI : ClassId) (vrow : Nat → Int32) (vdrawn : Int32) (vtr : Int32) (vled : Int32) (vmov : Int32) (vw1 : Int32) (vw2 : Int32) (veo : Option Nat) (veb : Int32) (vh1 : Int64) (vt1 : Int64) (vp1 : Int32) (vk1 : Int32) (vg1 : Int32) (vh2 : Int64) (vt2 : Int64) (vp2 : Int32) (vk2 : Int32) (vg2 : Int32) : va_W := [(a0, .inr (2, [.ref aR, .ref aF, .ref aG, .int vdrawn, .int vtr, .int vled, .int vmov, .int vw1, .int vw2, va_rf veo, .int veb])), (aF, .inr (0, [.long vh1, .long vt1, .int vp1, .int vk1, .int vg1])), (aG, .inr (0, [.long vh2, .long vt2, .int vp2, .int vk2, .int vg2])), (aR, .inl (cI, 42, .inl vrow))]
end
section
/-! THE CLASS: static methods (laid by wip/p24/rows.py) -/
abbrev rJ13_bitCount_95d88 : Room := { frames := 0, cells := 0, slots := 0, locals := 0 }
def j_J13_bitCount_95d88 (x0 : Int64) : Int32 := (((((((((x0 - (((x0.toUInt64 >>> ((1 : Int32).toInt64.toUInt64 &&& Int64.toUInt64 63)).toInt64) &&& 6148914691236517205)) &&& 3689348814741910323) + ((((x0 - (((x0.toUInt64 >>> ((1 : Int32).toInt64.toUInt64 &&& Int64.toUInt64 63)).toInt64) &&& 6148914691236517205)).toUInt64 >>> ((2 : Int32).toInt64.toUInt64 &&& Int64.toUInt64 63)).toInt64) &&& 3689348814741910323)) + (((((x0 - (((x0.toUInt64 >>> ((1 : Int32).toInt64.toUInt64 &&& Int64.toUInt64 63)).toInt64) &&& 6148914691236517205)) &&& 3689348814741910323) + ((((x0 - (((x0.toUInt64 >>> ((1 : Int32).toInt64.toUInt64 &&& Int64.toUInt64 63)).toInt64) &&& 6148914691236517205)).toUInt64 >>> ((2 : Int32).toInt64.toUInt64 &&& Int64.toUInt64 63)).toInt64) &&& 3689348814741910323)).toUInt64 >>> ((4 : Int32).toInt64.toUInt64 &&& Int64.toUInt64 63)).toInt64)) &&& 1085102592571150095) + (((((((x0 - (((x0.toUInt64 >>> ((1 : Int32).toInt64.toUInt64 &&& Int64.toUInt64 63)).toInt64) &&& 6148914691236517205)) &&& 3689348814741910323) + ((((x0 - (((x0.toUInt64 >>> ((1 : Int32).toInt64.toUInt64 &&& Int64.toUInt64 63)).toInt64) &&& 6148914691236517205)).toUInt64 >>> ((2 : Int32).toInt64.toUInt64 &&& Int64.toUInt64 63)).toInt64) &&& 3689348814741910323)) + (((((x0 - (((x0.toUInt64 >>> ((1 : Int32).toInt64.toUInt64 &&& Int64.toUInt64 63)).toInt64) &&& 6148914691236517205)) &&& 3689348814741910323) + ((((x0 - (((x0.toUInt64 >>> ((1 : Int32).toInt64.toUInt64 &&& Int64.toUInt64 63)).toInt64) &&& 6148914691236517205)).toUInt64 >>> ((2 : Int32).toInt64.toUInt64 &&& Int64.toUInt64 63)).toInt64) &&& 3689348814741910323)).toUInt64 >>> ((4 : Int32).toInt64.toUInt64 &&& Int64.toUInt64 63)).toInt64)) &&& 1085102592571150095).toUInt64 >>> ((8 : Int32).toInt64.toUInt64 &&& Int64.toUInt64 63)).toInt64)) + ((((((((x0 - (((x0.toUInt64 >>> ((1 : Int32).toInt64.toUInt64 &&& Int64.toUInt64 63)).toInt64) &&& 6148914691236517205)) &&& 3689348814741910323) + ((((x0 - (((x0.toUInt64 >>> ((1 : Int32).toInt64.toUInt64 &&& Int64.toUInt64 63)).toInt64) &&& 6148914691236517205)).toUInt64 >>> ((2 : Int32).toInt64.toUInt64 &&& Int64.toUInt64 63)).toInt64) &&& 3689348814741910323)) + (((((x0 - (((x0.toUInt64 >>> ((1 : Int32).toInt64.toUInt64 &&& Int64.toUInt64 63)).toInt64) &&& 6148914691236517205)) &&& 3689348814741910323) + ((((x0 - (((x0.toUInt64 >>> ((1 : Int32).toInt64.toUInt64 &&& Int64.toUInt64 63)).toInt64) &&& 6148914691236517205)).toUInt64 >>> ((2 : Int32).toInt64.toUInt64 &&& Int64.toUInt64 63)).toInt64) &&& 3689348814741910323)).toUInt64 >>> ((4 : Int32).toInt64.toUInt64 &&& Int64.toUInt64 63)).toInt64)) &&& 1085102592571150095) + (((((((x0 - (((x0.toUInt64 >>> ((1 : Int32).toInt64.toUInt64 &&& Int64.toUInt64 63)).toInt64) &&& 6148914691236517205)) &&& 3689348814741910323) + ((((x0 - (((x0.toUInt64 >>> ((1 : Int32).toInt64.toUInt64 &&& Int64.toUInt64 63)).toInt64) &&& 6148914691236517205)).toUInt64 >>> ((2 : Int32).toInt64.toUInt64 &&& Int64.toUInt64 63)).toInt64) &&& 3689348814741910323)) + (((((x0 - (((x0.toUInt64 >>> ((1 : Int32).toInt64.toUInt64 &&& Int64.toUInt64 63)).toInt64) &&& 6148914691236517205)) &&& 3689348814741910323) + ((((x0 - (((x0.toUInt64 >>> ((1 : Int32).toInt64.toUInt64 &&& Int64.toUInt64 63)).toInt64) &&& 6148914691236517205)).toUInt64 >>> ((2 : Int32).toInt64.toUInt64 &&& Int64.toUInt64 63)).toInt64) &&& 3689348814741910323)).toUInt64 >>> ((4 : Int32).toInt64.toUInt64 &&& Int64.toUInt64 63)).toInt64)) &&& 1085102592571150095).toUInt64 >>> ((8 : Int32).toInt64.toUInt64 &&& Int64.toUInt64 63)).toInt64)).toUInt64 >>> ((16 : Int32).toInt64.toUInt64 &&& Int64.toUInt64 63)).toInt64)) + (((((((((x0 - (((x0.toUInt64 >>> ((1 : Int32).toInt64.toUInt64 &&& Int64.toUInt64 63)).toInt64) &&& 6148914691236517205)) &&& 3689348814741910323) + ((((x0 - (((x0.toUInt64 >>> ((1 : Int32).toInt64.toUInt64 &&& Int64.toUInt64 63)).toInt64) &&& 6148914691236517205)).toUInt64 >>> ((2 : Int32).toInt64.toUInt64 &&& Int64.toUInt64 63)).toInt64) &&& 3689348814741910323)) + (((((x0 - (((x0.toUInt64 >>> ((1 : Int32).toInt64.toUInt64 &&& Int64.toUInt64 63)).toInt64) &&& 6148914691236517205)) &&& 3689348814741910323) + ((((x0 - (((x0.toUInt64 >>> ((1 : Int32).toInt64.toUInt64 &&& Int64.toUInt64 63)).toInt64) &&& 6148914691236517205)).toUInt64 >>> ((2 : Int32).toInt64.toUInt64 &&& Int64.toUInt64 63)).toInt64) &&& 3689348814741910323)).toUInt64 >>> ((4 : Int32).toInt64.toUInt64 &&& Int64.toUInt64 63)).toInt64)) &&& 1085102592571150095) + (((((((x0 - (((x0.toUInt64 >>> ((1 : Int32).toInt64.toUInt64 &&& Int64.toUInt64 63)).toInt64) &&& 6148914691236517205)) &&& 3689348814741910323) + ((((x0 - (((x0.toUInt64 >>> ((1 : Int32).toInt64.toUInt64 &&& Int64.toUInt64 63)).toInt64) &&& 6148914691236517205)).toUInt64 >>> ((2 : Int32).toInt64.toUInt64 &&& Int64.toUInt64 63)).toInt64) &&& 3689348814741910323)) + (((((x0 - (((x0.toUInt64 >>> ((1 : Int32).toInt64.toUInt64 &&& Int64.toUInt64 63)).toInt64) &&& 6148914691236517205)) &&& 3689348814741910323) + ((((x0 - (((x0.toUInt64 >>> ((1 : Int32).toInt64.toUInt64 &&& Int64.toUInt64 63)).toInt64) &&& 6148914691236517205)).toUInt64 >>> ((2 : Int32).toInt64.toUInt64 &&& Int64.toUInt64 63)).toInt64) &&& 3689348814741910323)).toUInt64 >>> ((4 : Int32).toInt64.toUInt64 &&& Int64.toUInt64 63)).toInt64)) &&& 1085102592571150095).toUInt64 >>> ((8 : Int32).toInt64.toUInt64 &&& Int64.toUInt64 63)).toInt64)) + ((((((((x0 - (((x0.toUInt64 >>> ((1 : Int32).toInt64.toUInt64 &&& Int64.toUInt64 63)).toInt64) &&& 6148914691236517205)) &&& 3689348814741910323) + ((((x0 - (((x0.toUInt64 >>> ((1 : Int32).toInt64.toUInt64 &&& Int64.toUInt64 63)).toInt64) &&& 6148914691236517205)).toUInt64 >>> ((2 : Int32).toInt64.toUInt64 &&& Int64.toUInt64 63)).toInt64) &&& 3689348814741910323)) + (((((x0 - (((x0.toUInt64 >>> ((1 : Int32).toInt64.toUInt64 &&& Int64.toUInt64 63)).toInt64) &&& 6148914691236517205)) &&& 3689348814741910323) + ((((x0 - (((x0.toUInt64 >>> ((1 : Int32).toInt64.toUInt64 &&& Int64.toUInt64 63)).toInt64) &&& 6148914691236517205)).toUInt64 >>> ((2 : Int32).toInt64.toUInt64 &&& Int64.toUInt64 63)).toInt64) &&& 3689348814741910323)).toUInt64 >>> ((4 : Int32).toInt64.toUInt64 &&& Int64.toUInt64 63)).toInt64)) &&& 1085102592571150095) + (((((((x0 - (((x0.toUInt64 >>> ((1 : Int32).toInt64.toUInt64 &&& Int64.toUInt64 63)).toInt64) &&& 6148914691236517205)) &&& 3689348814741910323) + ((((x0 - (((x0.toUInt64 >>> ((1 : Int32).toInt64.toUInt64 &&& Int64.toUInt64 63)).toInt64) &&& 6148914691236517205)).toUInt64 >>> ((2 : Int32).toInt64.toUInt64 &&& Int64.toUInt64 63)).toInt64) &&& 3689348814741910323)) + (((((x0 - (((x0.toUInt64 >>> ((1 : Int32).toInt64.toUInt64 &&& Int64.toUInt64 63)).toInt64) &&& 6148914691236517205)) &&& 3689348814741910323) + ((((x0 - (((x0.toUInt64 >>> ((1 : Int32).toInt64.toUInt64 &&& Int64.toUInt64 63)).toInt64) &&& 6148914691236517205)).toUInt64 >>> ((2 : Int32).toInt64.toUInt64 &&& Int64.toUInt64 63)).toInt64) &&& 3689348814741910323)).toUInt64 >>> ((4 : Int32).toInt64.toUInt64 &&& Int64.toUInt64 63)).toInt64)) &&& 1085102592571150095).toUInt64 >>> ((8 : Int32).toInt64.toUInt64 &&& Int64.toUInt64 63)).toInt64)).toUInt64 >>> ((16 : Int32).toInt64.toUInt64 &&& Int64.toUInt64 63)).toInt64)).toUInt64 >>> ((32 : Int32).toInt64.toUInt64 &&& Int64.toUInt64 63)).toInt64)).toInt32) &&& 127
set_option maxRecDepth 100000 in
set_option maxHeartbeats 4000000 in
theorem c_J13_bitCount_95d88 {l : Launch} {D : va_G} (x0 : Int64) : jR l yJ13_bitCount_95d88 wsJ13_bitCount_95d88 rJ13_bitCount_95d88 D [.long x0] [] [] (.int (j_J13_bitCount_95d88 x0)) := by
  refine jR_of (cc := cJ13_bitCount_95d88) (maxL := 2) (ret := (some .int)) (by decide) rfl (Nat.le_of_ble_eq_true rfl) ?_
  intro p e s m below meth c ls S hr hlocks hP hK hN hl
  obtain ⟨hx, hb, hml, hown, hts⟩ := id S
  have hl : lv_has ls 2 [(0, .long x0)] := hl
  refine lv_lload_n hx hb dJ13_bitCount_95d88_0 rfl (lv_at hl 0 rfl) ?_
  refine lv_lload_n hx hb dJ13_bitCount_95d88_1 rfl (lv_at hl 0 rfl) ?_
  refine lv_iconst (v := 1) hx hb dJ13_bitCount_95d88_2 (by decide) ?_
  refine lv_lushr (v := (x0.toUInt64 >>> ((1 : Int32).toInt64.toUInt64 &&& Int64.toUInt64 63)).toInt64) hx hb dJ13_bitCount_95d88_3 rfl ?_
  refine lv_ldc2 (v := 6148914691236517205) hx hb hown (hts (.constantLong RJ13 314 (6148914691236517205)) (by decide +kernel)) dJ13_bitCount_95d88_4 ?_
  refine lv_land hx hb dJ13_bitCount_95d88_7 ?_
  refine lv_lsub hx hb dJ13_bitCount_95d88_8 ?_
  refine lv_lstore_n (lv' := [(0, .long (x0 - (((x0.toUInt64 >>> ((1 : Int32).toInt64.toUInt64 &&& Int64.toUInt64 63)).toInt64) &&& 6148914691236517205)))]) hx hb dJ13_bitCount_95d88_9 rfl hl (by decide) rfl (fun ls hl => ?_)
  refine lv_lload_n hx hb dJ13_bitCount_95d88_10 rfl (lv_at hl 0 rfl) ?_
  refine lv_ldc2 (v := 3689348814741910323) hx hb hown (hts (.constantLong RJ13 316 (3689348814741910323)) (by decide +kernel)) dJ13_bitCount_95d88_11 ?_
  refine lv_land hx hb dJ13_bitCount_95d88_14 ?_
  refine lv_lload_n hx hb dJ13_bitCount_95d88_15 rfl (lv_at hl 0 rfl) ?_
  refine lv_iconst (v := 2) hx hb dJ13_bitCount_95d88_16 (by decide) ?_
  refine lv_lushr (v := ((x0 - (((x0.toUInt64 >>> ((1 : Int32).toInt64.toUInt64 &&& Int64.toUInt64 63)).toInt64) &&& 6148914691236517205)).toUInt64 >>> ((2 : Int32).toInt64.toUInt64 &&& Int64.toUInt64 63)).toInt64) hx hb dJ13_bitCount_95d88_17 rfl ?_
  refine lv_ldc2 (v := 3689348814741910323) hx hb hown (hts (.constantLong RJ13 316 (3689348814741910323)) (by decide +kernel)) dJ13_bitCount_95d88_18 ?_
  refine lv_land hx hb dJ13_bitCount_95d88_21 ?_
  refine lv_ladd hx hb dJ13_bitCount_95d88_22 ?_
  refine lv_lstore_n (lv' := [(0, .long (((x0 - (((x0.toUInt64 >>> ((1 : Int32).toInt64.toUInt64 &&& Int64.toUInt64 63)).toInt64) &&& 6148914691236517205)) &&& 3689348814741910323) + ((((x0 - (((x0.toUInt64 >>> ((1 : Int32).toInt64.toUInt64 &&& Int64.toUInt64 63)).toInt64) &&& 6148914691236517205)).toUInt64 >>> ((2 : Int32).toInt64.toUInt64 &&& Int64.toUInt64 63)).toInt64) &&& 3689348814741910323)))]) hx hb dJ13_bitCount_95d88_23 rfl hl (by decide) rfl (fun ls hl => ?_)
  refine lv_lload_n hx hb dJ13_bitCount_95d88_24 rfl (lv_at hl 0 rfl) ?_
  refine lv_lload_n hx hb dJ13_bitCount_95d88_25 rfl (lv_at hl 0 rfl) ?_
  refine lv_iconst (v := 4) hx hb dJ13_bitCount_95d88_26 (by decide) ?_
  refine lv_lushr (v := ((((x0 - (((x0.toUInt64 >>> ((1 : Int32).toInt64.toUInt64 &&& Int64.toUInt64 63)).toInt64) &&& 6148914691236517205)) &&& 3689348814741910323) + ((((x0 - (((x0.toUInt64 >>> ((1 : Int32).toInt64.toUInt64 &&& Int64.toUInt64 63)).toInt64) &&& 6148914691236517205)).toUInt64 >>> ((2 : Int32).toInt64.toUInt64 &&& Int64.toUInt64 63)).toInt64) &&& 3689348814741910323)).toUInt64 >>> ((4 : Int32).toInt64.toUInt64 &&& Int64.toUInt64 63)).toInt64) hx hb dJ13_bitCount_95d88_27 rfl ?_
  refine lv_ladd hx hb dJ13_bitCount_95d88_28 ?_
  refine lv_ldc2 (v := 1085102592571150095) hx hb hown (hts (.constantLong RJ13 318 (1085102592571150095)) (by decide +kernel)) dJ13_bitCount_95d88_29 ?_
  refine lv_land hx hb dJ13_bitCount_95d88_32 ?_
  refine lv_lstore_n (lv' := [(0, .long (((((x0 - (((x0.toUInt64 >>> ((1 : Int32).toInt64.toUInt64 &&& Int64.toUInt64 63)).toInt64) &&& 6148914691236517205)) &&& 3689348814741910323) + ((((x0 - (((x0.toUInt64 >>> ((1 : Int32).toInt64.toUInt64 &&& Int64.toUInt64 63)).toInt64) &&& 6148914691236517205)).toUInt64 >>> ((2 : Int32).toInt64.toUInt64 &&& Int64.toUInt64 63)).toInt64) &&& 3689348814741910323)) + (((((x0 - (((x0.toUInt64 >>> ((1 : Int32).toInt64.toUInt64 &&& Int64.toUInt64 63)).toInt64) &&& 6148914691236517205)) &&& 3689348814741910323) + ((((x0 - (((x0.toUInt64 >>> ((1 : Int32).toInt64.toUInt64 &&& Int64.toUInt64 63)).toInt64) &&& 6148914691236517205)).toUInt64 >>> ((2 : Int32).toInt64.toUInt64 &&& Int64.toUInt64 63)).toInt64) &&& 3689348814741910323)).toUInt64 >>> ((4 : Int32).toInt64.toUInt64 &&& Int64.toUInt64 63)).toInt64)) &&& 1085102592571150095))]) hx hb dJ13_bitCount_95d88_33 rfl hl (by decide) rfl (fun ls hl => ?_)
  refine lv_lload_n hx hb dJ13_bitCount_95d88_34 rfl (lv_at hl 0 rfl) ?_
  refine lv_lload_n hx hb dJ13_bitCount_95d88_35 rfl (lv_at hl 0 rfl) ?_
  refine lv_bipush (v := 8) hx hb dJ13_bitCount_95d88_36 (by decide) ?_
  refine lv_lushr (v := ((((((x0 - (((x0.toUInt64 >>> ((1 : Int32).toInt64.toUInt64 &&& Int64.toUInt64 63)).toInt64) &&& 6148914691236517205)) &&& 3689348814741910323) + ((((x0 - (((x0.toUInt64 >>> ((1 : Int32).toInt64.toUInt64 &&& Int64.toUInt64 63)).toInt64) &&& 6148914691236517205)).toUInt64 >>> ((2 : Int32).toInt64.toUInt64 &&& Int64.toUInt64 63)).toInt64) &&& 3689348814741910323)) + (((((x0 - (((x0.toUInt64 >>> ((1 : Int32).toInt64.toUInt64 &&& Int64.toUInt64 63)).toInt64) &&& 6148914691236517205)) &&& 3689348814741910323) + ((((x0 - (((x0.toUInt64 >>> ((1 : Int32).toInt64.toUInt64 &&& Int64.toUInt64 63)).toInt64) &&& 6148914691236517205)).toUInt64 >>> ((2 : Int32).toInt64.toUInt64 &&& Int64.toUInt64 63)).toInt64) &&& 3689348814741910323)).toUInt64 >>> ((4 : Int32).toInt64.toUInt64 &&& Int64.toUInt64 63)).toInt64)) &&& 1085102592571150095).toUInt64 >>> ((8 : Int32).toInt64.toUInt64 &&& Int64.toUInt64 63)).toInt64) hx hb dJ13_bitCount_95d88_38 rfl ?_
  refine lv_ladd hx hb dJ13_bitCount_95d88_39 ?_
  refine lv_lstore_n (lv' := [(0, .long ((((((x0 - (((x0.toUInt64 >>> ((1 : Int32).toInt64.toUInt64 &&& Int64.toUInt64 63)).toInt64) &&& 6148914691236517205)) &&& 3689348814741910323) + ((((x0 - (((x0.toUInt64 >>> ((1 : Int32).toInt64.toUInt64 &&& Int64.toUInt64 63)).toInt64) &&& 6148914691236517205)).toUInt64 >>> ((2 : Int32).toInt64.toUInt64 &&& Int64.toUInt64 63)).toInt64) &&& 3689348814741910323)) + (((((x0 - (((x0.toUInt64 >>> ((1 : Int32).toInt64.toUInt64 &&& Int64.toUInt64 63)).toInt64) &&& 6148914691236517205)) &&& 3689348814741910323) + ((((x0 - (((x0.toUInt64 >>> ((1 : Int32).toInt64.toUInt64 &&& Int64.toUInt64 63)).toInt64) &&& 6148914691236517205)).toUInt64 >>> ((2 : Int32).toInt64.toUInt64 &&& Int64.toUInt64 63)).toInt64) &&& 3689348814741910323)).toUInt64 >>> ((4 : Int32).toInt64.toUInt64 &&& Int64.toUInt64 63)).toInt64)) &&& 1085102592571150095) + (((((((x0 - (((x0.toUInt64 >>> ((1 : Int32).toInt64.toUInt64 &&& Int64.toUInt64 63)).toInt64) &&& 6148914691236517205)) &&& 3689348814741910323) + ((((x0 - (((x0.toUInt64 >>> ((1 : Int32).toInt64.toUInt64 &&& Int64.toUInt64 63)).toInt64) &&& 6148914691236517205)).toUInt64 >>> ((2 : Int32).toInt64.toUInt64 &&& Int64.toUInt64 63)).toInt64) &&& 3689348814741910323)) + (((((x0 - (((x0.toUInt64 >>> ((1 : Int32).toInt64.toUInt64 &&& Int64.toUInt64 63)).toInt64) &&& 6148914691236517205)) &&& 3689348814741910323) + ((((x0 - (((x0.toUInt64 >>> ((1 : Int32).toInt64.toUInt64 &&& Int64.toUInt64 63)).toInt64) &&& 6148914691236517205)).toUInt64 >>> ((2 : Int32).toInt64.toUInt64 &&& Int64.toUInt64 63)).toInt64) &&& 3689348814741910323)).toUInt64 >>> ((4 : Int32).toInt64.toUInt64 &&& Int64.toUInt64 63)).toInt64)) &&& 1085102592571150095).toUInt64 >>> ((8 : Int32).toInt64.toUInt64 &&& Int64.toUInt64 63)).toInt64)))]) hx hb dJ13_bitCount_95d88_40 rfl hl (by decide) rfl (fun ls hl => ?_)
  refine lv_lload_n hx hb dJ13_bitCount_95d88_41 rfl (lv_at hl 0 rfl) ?_
  refine lv_lload_n hx hb dJ13_bitCount_95d88_42 rfl (lv_at hl 0 rfl) ?_
  refine lv_bipush (v := 16) hx hb dJ13_bitCount_95d88_43 (by decide) ?_
  refine lv_lushr (v := (((((((x0 - (((x0.toUInt64 >>> ((1 : Int32).toInt64.toUInt64 &&& Int64.toUInt64 63)).toInt64) &&& 6148914691236517205)) &&& 3689348814741910323) + ((((x0 - (((x0.toUInt64 >>> ((1 : Int32).toInt64.toUInt64 &&& Int64.toUInt64 63)).toInt64) &&& 6148914691236517205)).toUInt64 >>> ((2 : Int32).toInt64.toUInt64 &&& Int64.toUInt64 63)).toInt64) &&& 3689348814741910323)) + (((((x0 - (((x0.toUInt64 >>> ((1 : Int32).toInt64.toUInt64 &&& Int64.toUInt64 63)).toInt64) &&& 6148914691236517205)) &&& 3689348814741910323) + ((((x0 - (((x0.toUInt64 >>> ((1 : Int32).toInt64.toUInt64 &&& Int64.toUInt64 63)).toInt64) &&& 6148914691236517205)).toUInt64 >>> ((2 : Int32).toInt64.toUInt64 &&& Int64.toUInt64 63)).toInt64) &&& 3689348814741910323)).toUInt64 >>> ((4 : Int32).toInt64.toUInt64 &&& Int64.toUInt64 63)).toInt64)) &&& 1085102592571150095) + (((((((x0 - (((x0.toUInt64 >>> ((1 : Int32).toInt64.toUInt64 &&& Int64.toUInt64 63)).toInt64) &&& 6148914691236517205)) &&& 3689348814741910323) + ((((x0 - (((x0.toUInt64 >>> ((1 : Int32).toInt64.toUInt64 &&& Int64.toUInt64 63)).toInt64) &&& 6148914691236517205)).toUInt64 >>> ((2 : Int32).toInt64.toUInt64 &&& Int64.toUInt64 63)).toInt64) &&& 3689348814741910323)) + (((((x0 - (((x0.toUInt64 >>> ((1 : Int32).toInt64.toUInt64 &&& Int64.toUInt64 63)).toInt64) &&& 6148914691236517205)) &&& 3689348814741910323) + ((((x0 - (((x0.toUInt64 >>> ((1 : Int32).toInt64.toUInt64 &&& Int64.toUInt64 63)).toInt64) &&& 6148914691236517205)).toUInt64 >>> ((2 : Int32).toInt64.toUInt64 &&& Int64.toUInt64 63)).toInt64) &&& 3689348814741910323)).toUInt64 >>> ((4 : Int32).toInt64.toUInt64 &&& Int64.toUInt64 63)).toInt64)) &&& 1085102592571150095).toUInt64 >>> ((8 : Int32).toInt64.toUInt64 &&& Int64.toUInt64 63)).toInt64)).toUInt64 >>> ((16 : Int32).toInt64.toUInt64 &&& Int64.toUInt64 63)).toInt64) hx hb dJ13_bitCount_95d88_45 rfl ?_
  refine lv_ladd hx hb dJ13_bitCount_95d88_46 ?_
  refine lv_lstore_n (lv' := [(0, .long (((((((x0 - (((x0.toUInt64 >>> ((1 : Int32).toInt64.toUInt64 &&& Int64.toUInt64 63)).toInt64) &&& 6148914691236517205)) &&& 3689348814741910323) + ((((x0 - (((x0.toUInt64 >>> ((1 : Int32).toInt64.toUInt64 &&& Int64.toUInt64 63)).toInt64) &&& 6148914691236517205)).toUInt64 >>> ((2 : Int32).toInt64.toUInt64 &&& Int64.toUInt64 63)).toInt64) &&& 3689348814741910323)) + (((((x0 - (((x0.toUInt64 >>> ((1 : Int32).toInt64.toUInt64 &&& Int64.toUInt64 63)).toInt64) &&& 6148914691236517205)) &&& 3689348814741910323) + ((((x0 - (((x0.toUInt64 >>> ((1 : Int32).toInt64.toUInt64 &&& Int64.toUInt64 63)).toInt64) &&& 6148914691236517205)).toUInt64 >>> ((2 : Int32).toInt64.toUInt64 &&& Int64.toUInt64 63)).toInt64) &&& 3689348814741910323)).toUInt64 >>> ((4 : Int32).toInt64.toUInt64 &&& Int64.toUInt64 63)).toInt64)) &&& 1085102592571150095) + (((((((x0 - (((x0.toUInt64 >>> ((1 : Int32).toInt64.toUInt64 &&& Int64.toUInt64 63)).toInt64) &&& 6148914691236517205)) &&& 3689348814741910323) + ((((x0 - (((x0.toUInt64 >>> ((1 : Int32).toInt64.toUInt64 &&& Int64.toUInt64 63)).toInt64) &&& 6148914691236517205)).toUInt64 >>> ((2 : Int32).toInt64.toUInt64 &&& Int64.toUInt64 63)).toInt64) &&& 3689348814741910323)) + (((((x0 - (((x0.toUInt64 >>> ((1 : Int32).toInt64.toUInt64 &&& Int64.toUInt64 63)).toInt64) &&& 6148914691236517205)) &&& 3689348814741910323) + ((((x0 - (((x0.toUInt64 >>> ((1 : Int32).toInt64.toUInt64 &&& Int64.toUInt64 63)).toInt64) &&& 6148914691236517205)).toUInt64 >>> ((2 : Int32).toInt64.toUInt64 &&& Int64.toUInt64 63)).toInt64) &&& 3689348814741910323)).toUInt64 >>> ((4 : Int32).toInt64.toUInt64 &&& Int64.toUInt64 63)).toInt64)) &&& 1085102592571150095).toUInt64 >>> ((8 : Int32).toInt64.toUInt64 &&& Int64.toUInt64 63)).toInt64)) + ((((((((x0 - (((x0.toUInt64 >>> ((1 : Int32).toInt64.toUInt64 &&& Int64.toUInt64 63)).toInt64) &&& 6148914691236517205)) &&& 3689348814741910323) + ((((x0 - (((x0.toUInt64 >>> ((1 : Int32).toInt64.toUInt64 &&& Int64.toUInt64 63)).toInt64) &&& 6148914691236517205)).toUInt64 >>> ((2 : Int32).toInt64.toUInt64 &&& Int64.toUInt64 63)).toInt64) &&& 3689348814741910323)) + (((((x0 - (((x0.toUInt64 >>> ((1 : Int32).toInt64.toUInt64 &&& Int64.toUInt64 63)).toInt64) &&& 6148914691236517205)) &&& 3689348814741910323) + ((((x0 - (((x0.toUInt64 >>> ((1 : Int32).toInt64.toUInt64 &&& Int64.toUInt64 63)).toInt64) &&& 6148914691236517205)).toUInt64 >>> ((2 : Int32).toInt64.toUInt64 &&& Int64.toUInt64 63)).toInt64) &&& 3689348814741910323)).toUInt64 >>> ((4 : Int32).toInt64.toUInt64 &&& Int64.toUInt64 63)).toInt64)) &&& 1085102592571150095) + (((((((x0 - (((x0.toUInt64 >>> ((1 : Int32).toInt64.toUInt64 &&& Int64.toUInt64 63)).toInt64) &&& 6148914691236517205)) &&& 3689348814741910323) + ((((x0 - (((x0.toUInt64 >>> ((1 : Int32).toInt64.toUInt64 &&& Int64.toUInt64 63)).toInt64) &&& 6148914691236517205)).toUInt64 >>> ((2 : Int32).toInt64.toUInt64 &&& Int64.toUInt64 63)).toInt64) &&& 3689348814741910323)) + (((((x0 - (((x0.toUInt64 >>> ((1 : Int32).toInt64.toUInt64 &&& Int64.toUInt64 63)).toInt64) &&& 6148914691236517205)) &&& 3689348814741910323) + ((((x0 - (((x0.toUInt64 >>> ((1 : Int32).toInt64.toUInt64 &&& Int64.toUInt64 63)).toInt64) &&& 6148914691236517205)).toUInt64 >>> ((2 : Int32).toInt64.toUInt64 &&& Int64.toUInt64 63)).toInt64) &&& 3689348814741910323)).toUInt64 >>> ((4 : Int32).toInt64.toUInt64 &&& Int64.toUInt64 63)).toInt64)) &&& 1085102592571150095).toUInt64 >>> ((8 : Int32).toInt64.toUInt64 &&& Int64.toUInt64 63)).toInt64)).toUInt64 >>> ((16 : Int32).toInt64.toUInt64 &&& Int64.toUInt64 63)).toInt64)))]) hx hb dJ13_bitCount_95d88_47 rfl hl (by decide) rfl (fun ls hl => ?_)
  refine lv_lload_n hx hb dJ13_bitCount_95d88_48 rfl (lv_at hl 0 rfl) ?_
  refine lv_lload_n hx hb dJ13_bitCount_95d88_49 rfl (lv_at hl 0 rfl) ?_
  refine lv_bipush (v := 32) hx hb dJ13_bitCount_95d88_50 (by decide) ?_
  refine lv_lushr (v := ((((((((x0 - (((x0.toUInt64 >>> ((1 : Int32).toInt64.toUInt64 &&& Int64.toUInt64 63)).toInt64) &&& 6148914691236517205)) &&& 3689348814741910323) + ((((x0 - (((x0.toUInt64 >>> ((1 : Int32).toInt64.toUInt64 &&& Int64.toUInt64 63)).toInt64) &&& 6148914691236517205)).toUInt64 >>> ((2 : Int32).toInt64.toUInt64 &&& Int64.toUInt64 63)).toInt64) &&& 3689348814741910323)) + (((((x0 - (((x0.toUInt64 >>> ((1 : Int32).toInt64.toUInt64 &&& Int64.toUInt64 63)).toInt64) &&& 6148914691236517205)) &&& 3689348814741910323) + ((((x0 - (((x0.toUInt64 >>> ((1 : Int32).toInt64.toUInt64 &&& Int64.toUInt64 63)).toInt64) &&& 6148914691236517205)).toUInt64 >>> ((2 : Int32).toInt64.toUInt64 &&& Int64.toUInt64 63)).toInt64) &&& 3689348814741910323)).toUInt64 >>> ((4 : Int32).toInt64.toUInt64 &&& Int64.toUInt64 63)).toInt64)) &&& 1085102592571150095) + (((((((x0 - (((x0.toUInt64 >>> ((1 : Int32).toInt64.toUInt64 &&& Int64.toUInt64 63)).toInt64) &&& 6148914691236517205)) &&& 3689348814741910323) + ((((x0 - (((x0.toUInt64 >>> ((1 : Int32).toInt64.toUInt64 &&& Int64.toUInt64 63)).toInt64) &&& 6148914691236517205)).toUInt64 >>> ((2 : Int32).toInt64.toUInt64 &&& Int64.toUInt64 63)).toInt64) &&& 3689348814741910323)) + (((((x0 - (((x0.toUInt64 >>> ((1 : Int32).toInt64.toUInt64 &&& Int64.toUInt64 63)).toInt64) &&& 6148914691236517205)) &&& 3689348814741910323) + ((((x0 - (((x0.toUInt64 >>> ((1 : Int32).toInt64.toUInt64 &&& Int64.toUInt64 63)).toInt64) &&& 6148914691236517205)).toUInt64 >>> ((2 : Int32).toInt64.toUInt64 &&& Int64.toUInt64 63)).toInt64) &&& 3689348814741910323)).toUInt64 >>> ((4 : Int32).toInt64.toUInt64 &&& Int64.toUInt64 63)).toInt64)) &&& 1085102592571150095).toUInt64 >>> ((8 : Int32).toInt64.toUInt64 &&& Int64.toUInt64 63)).toInt64)) + ((((((((x0 - (((x0.toUInt64 >>> ((1 : Int32).toInt64.toUInt64 &&& Int64.toUInt64 63)).toInt64) &&& 6148914691236517205)) &&& 3689348814741910323) + ((((x0 - (((x0.toUInt64 >>> ((1 : Int32).toInt64.toUInt64 &&& Int64.toUInt64 63)).toInt64) &&& 6148914691236517205)).toUInt64 >>> ((2 : Int32).toInt64.toUInt64 &&& Int64.toUInt64 63)).toInt64) &&& 3689348814741910323)) + (((((x0 - (((x0.toUInt64 >>> ((1 : Int32).toInt64.toUInt64 &&& Int64.toUInt64 63)).toInt64) &&& 6148914691236517205)) &&& 3689348814741910323) + ((((x0 - (((x0.toUInt64 >>> ((1 : Int32).toInt64.toUInt64 &&& Int64.toUInt64 63)).toInt64) &&& 6148914691236517205)).toUInt64 >>> ((2 : Int32).toInt64.toUInt64 &&& Int64.toUInt64 63)).toInt64) &&& 3689348814741910323)).toUInt64 >>> ((4 : Int32).toInt64.toUInt64 &&& Int64.toUInt64 63)).toInt64)) &&& 1085102592571150095) + (((((((x0 - (((x0.toUInt64 >>> ((1 : Int32).toInt64.toUInt64 &&& Int64.toUInt64 63)).toInt64) &&& 6148914691236517205)) &&& 3689348814741910323) + ((((x0 - (((x0.toUInt64 >>> ((1 : Int32).toInt64.toUInt64 &&& Int64.toUInt64 63)).toInt64) &&& 6148914691236517205)).toUInt64 >>> ((2 : Int32).toInt64.toUInt64 &&& Int64.toUInt64 63)).toInt64) &&& 3689348814741910323)) + (((((x0 - (((x0.toUInt64 >>> ((1 : Int32).toInt64.toUInt64 &&& Int64.toUInt64 63)).toInt64) &&& 6148914691236517205)) &&& 3689348814741910323) + ((((x0 - (((x0.toUInt64 >>> ((1 : Int32).toInt64.toUInt64 &&& Int64.toUInt64 63)).toInt64) &&& 6148914691236517205)).toUInt64 >>> ((2 : Int32).toInt64.toUInt64 &&& Int64.toUInt64 63)).toInt64) &&& 3689348814741910323)).toUInt64 >>> ((4 : Int32).toInt64.toUInt64 &&& Int64.toUInt64 63)).toInt64)) &&& 1085102592571150095).toUInt64 >>> ((8 : Int32).toInt64.toUInt64 &&& Int64.toUInt64 63)).toInt64)).toUInt64 >>> ((16 : Int32).toInt64.toUInt64 &&& Int64.toUInt64 63)).toInt64)).toUInt64 >>> ((32 : Int32).toInt64.toUInt64 &&& Int64.toUInt64 63)).toInt64) hx hb dJ13_bitCount_95d88_52 rfl ?_
  refine lv_ladd hx hb dJ13_bitCount_95d88_53 ?_
  refine lv_lstore_n (lv' := [(0, .long ((((((((x0 - (((x0.toUInt64 >>> ((1 : Int32).toInt64.toUInt64 &&& Int64.toUInt64 63)).toInt64) &&& 6148914691236517205)) &&& 3689348814741910323) + ((((x0 - (((x0.toUInt64 >>> ((1 : Int32).toInt64.toUInt64 &&& Int64.toUInt64 63)).toInt64) &&& 6148914691236517205)).toUInt64 >>> ((2 : Int32).toInt64.toUInt64 &&& Int64.toUInt64 63)).toInt64) &&& 3689348814741910323)) + (((((x0 - (((x0.toUInt64 >>> ((1 : Int32).toInt64.toUInt64 &&& Int64.toUInt64 63)).toInt64) &&& 6148914691236517205)) &&& 3689348814741910323) + ((((x0 - (((x0.toUInt64 >>> ((1 : Int32).toInt64.toUInt64 &&& Int64.toUInt64 63)).toInt64) &&& 6148914691236517205)).toUInt64 >>> ((2 : Int32).toInt64.toUInt64 &&& Int64.toUInt64 63)).toInt64) &&& 3689348814741910323)).toUInt64 >>> ((4 : Int32).toInt64.toUInt64 &&& Int64.toUInt64 63)).toInt64)) &&& 1085102592571150095) + (((((((x0 - (((x0.toUInt64 >>> ((1 : Int32).toInt64.toUInt64 &&& Int64.toUInt64 63)).toInt64) &&& 6148914691236517205)) &&& 3689348814741910323) + ((((x0 - (((x0.toUInt64 >>> ((1 : Int32).toInt64.toUInt64 &&& Int64.toUInt64 63)).toInt64) &&& 6148914691236517205)).toUInt64 >>> ((2 : Int32).toInt64.toUInt64 &&& Int64.toUInt64 63)).toInt64) &&& 3689348814741910323)) + (((((x0 - (((x0.toUInt64 >>> ((1 : Int32).toInt64.toUInt64 &&& Int64.toUInt64 63)).toInt64) &&& 6148914691236517205)) &&& 3689348814741910323) + ((((x0 - (((x0.toUInt64 >>> ((1 : Int32).toInt64.toUInt64 &&& Int64.toUInt64 63)).toInt64) &&& 6148914691236517205)).toUInt64 >>> ((2 : Int32).toInt64.toUInt64 &&& Int64.toUInt64 63)).toInt64) &&& 3689348814741910323)).toUInt64 >>> ((4 : Int32).toInt64.toUInt64 &&& Int64.toUInt64 63)).toInt64)) &&& 1085102592571150095).toUInt64 >>> ((8 : Int32).toInt64.toUInt64 &&& Int64.toUInt64 63)).toInt64)) + ((((((((x0 - (((x0.toUInt64 >>> ((1 : Int32).toInt64.toUInt64 &&& Int64.toUInt64 63)).toInt64) &&& 6148914691236517205)) &&& 3689348814741910323) + ((((x0 - (((x0.toUInt64 >>> ((1 : Int32).toInt64.toUInt64 &&& Int64.toUInt64 63)).toInt64) &&& 6148914691236517205)).toUInt64 >>> ((2 : Int32).toInt64.toUInt64 &&& Int64.toUInt64 63)).toInt64) &&& 3689348814741910323)) + (((((x0 - (((x0.toUInt64 >>> ((1 : Int32).toInt64.toUInt64 &&& Int64.toUInt64 63)).toInt64) &&& 6148914691236517205)) &&& 3689348814741910323) + ((((x0 - (((x0.toUInt64 >>> ((1 : Int32).toInt64.toUInt64 &&& Int64.toUInt64 63)).toInt64) &&& 6148914691236517205)).toUInt64 >>> ((2 : Int32).toInt64.toUInt64 &&& Int64.toUInt64 63)).toInt64) &&& 3689348814741910323)).toUInt64 >>> ((4 : Int32).toInt64.toUInt64 &&& Int64.toUInt64 63)).toInt64)) &&& 1085102592571150095) + (((((((x0 - (((x0.toUInt64 >>> ((1 : Int32).toInt64.toUInt64 &&& Int64.toUInt64 63)).toInt64) &&& 6148914691236517205)) &&& 3689348814741910323) + ((((x0 - (((x0.toUInt64 >>> ((1 : Int32).toInt64.toUInt64 &&& Int64.toUInt64 63)).toInt64) &&& 6148914691236517205)).toUInt64 >>> ((2 : Int32).toInt64.toUInt64 &&& Int64.toUInt64 63)).toInt64) &&& 3689348814741910323)) + (((((x0 - (((x0.toUInt64 >>> ((1 : Int32).toInt64.toUInt64 &&& Int64.toUInt64 63)).toInt64) &&& 6148914691236517205)) &&& 3689348814741910323) + ((((x0 - (((x0.toUInt64 >>> ((1 : Int32).toInt64.toUInt64 &&& Int64.toUInt64 63)).toInt64) &&& 6148914691236517205)).toUInt64 >>> ((2 : Int32).toInt64.toUInt64 &&& Int64.toUInt64 63)).toInt64) &&& 3689348814741910323)).toUInt64 >>> ((4 : Int32).toInt64.toUInt64 &&& Int64.toUInt64 63)).toInt64)) &&& 1085102592571150095).toUInt64 >>> ((8 : Int32).toInt64.toUInt64 &&& Int64.toUInt64 63)).toInt64)).toUInt64 >>> ((16 : Int32).toInt64.toUInt64 &&& Int64.toUInt64 63)).toInt64)) + (((((((((x0 - (((x0.toUInt64 >>> ((1 : Int32).toInt64.toUInt64 &&& Int64.toUInt64 63)).toInt64) &&& 6148914691236517205)) &&& 3689348814741910323) + ((((x0 - (((x0.toUInt64 >>> ((1 : Int32).toInt64.toUInt64 &&& Int64.toUInt64 63)).toInt64) &&& 6148914691236517205)).toUInt64 >>> ((2 : Int32).toInt64.toUInt64 &&& Int64.toUInt64 63)).toInt64) &&& 3689348814741910323)) + (((((x0 - (((x0.toUInt64 >>> ((1 : Int32).toInt64.toUInt64 &&& Int64.toUInt64 63)).toInt64) &&& 6148914691236517205)) &&& 3689348814741910323) + ((((x0 - (((x0.toUInt64 >>> ((1 : Int32).toInt64.toUInt64 &&& Int64.toUInt64 63)).toInt64) &&& 6148914691236517205)).toUInt64 >>> ((2 : Int32).toInt64.toUInt64 &&& Int64.toUInt64 63)).toInt64) &&& 3689348814741910323)).toUInt64 >>> ((4 : Int32).toInt64.toUInt64 &&& Int64.toUInt64 63)).toInt64)) &&& 1085102592571150095) + (((((((x0 - (((x0.toUInt64 >>> ((1 : Int32).toInt64.toUInt64 &&& Int64.toUInt64 63)).toInt64) &&& 6148914691236517205)) &&& 3689348814741910323) + ((((x0 - (((x0.toUInt64 >>> ((1 : Int32).toInt64.toUInt64 &&& Int64.toUInt64 63)).toInt64) &&& 6148914691236517205)).toUInt64 >>> ((2 : Int32).toInt64.toUInt64 &&& Int64.toUInt64 63)).toInt64) &&& 3689348814741910323)) + (((((x0 - (((x0.toUInt64 >>> ((1 : Int32).toInt64.toUInt64 &&& Int64.toUInt64 63)).toInt64) &&& 6148914691236517205)) &&& 3689348814741910323) + ((((x0 - (((x0.toUInt64 >>> ((1 : Int32).toInt64.toUInt64 &&& Int64.toUInt64 63)).toInt64) &&& 6148914691236517205)).toUInt64 >>> ((2 : Int32).toInt64.toUInt64 &&& Int64.toUInt64 63)).toInt64) &&& 3689348814741910323)).toUInt64 >>> ((4 : Int32).toInt64.toUInt64 &&& Int64.toUInt64 63)).toInt64)) &&& 1085102592571150095).toUInt64 >>> ((8 : Int32).toInt64.toUInt64 &&& Int64.toUInt64 63)).toInt64)) + ((((((((x0 - (((x0.toUInt64 >>> ((1 : Int32).toInt64.toUInt64 &&& Int64.toUInt64 63)).toInt64) &&& 6148914691236517205)) &&& 3689348814741910323) + ((((x0 - (((x0.toUInt64 >>> ((1 : Int32).toInt64.toUInt64 &&& Int64.toUInt64 63)).toInt64) &&& 6148914691236517205)).toUInt64 >>> ((2 : Int32).toInt64.toUInt64 &&& Int64.toUInt64 63)).toInt64) &&& 3689348814741910323)) + (((((x0 - (((x0.toUInt64 >>> ((1 : Int32).toInt64.toUInt64 &&& Int64.toUInt64 63)).toInt64) &&& 6148914691236517205)) &&& 3689348814741910323) + ((((x0 - (((x0.toUInt64 >>> ((1 : Int32).toInt64.toUInt64 &&& Int64.toUInt64 63)).toInt64) &&& 6148914691236517205)).toUInt64 >>> ((2 : Int32).toInt64.toUInt64 &&& Int64.toUInt64 63)).toInt64) &&& 3689348814741910323)).toUInt64 >>> ((4 : Int32).toInt64.toUInt64 &&& Int64.toUInt64 63)).toInt64)) &&& 1085102592571150095) + (((((((x0 - (((x0.toUInt64 >>> ((1 : Int32).toInt64.toUInt64 &&& Int64.toUInt64 63)).toInt64) &&& 6148914691236517205)) &&& 3689348814741910323) + ((((x0 - (((x0.toUInt64 >>> ((1 : Int32).toInt64.toUInt64 &&& Int64.toUInt64 63)).toInt64) &&& 6148914691236517205)).toUInt64 >>> ((2 : Int32).toInt64.toUInt64 &&& Int64.toUInt64 63)).toInt64) &&& 3689348814741910323)) + (((((x0 - (((x0.toUInt64 >>> ((1 : Int32).toInt64.toUInt64 &&& Int64.toUInt64 63)).toInt64) &&& 6148914691236517205)) &&& 3689348814741910323) + ((((x0 - (((x0.toUInt64 >>> ((1 : Int32).toInt64.toUInt64 &&& Int64.toUInt64 63)).toInt64) &&& 6148914691236517205)).toUInt64 >>> ((2 : Int32).toInt64.toUInt64 &&& Int64.toUInt64 63)).toInt64) &&& 3689348814741910323)).toUInt64 >>> ((4 : Int32).toInt64.toUInt64 &&& Int64.toUInt64 63)).toInt64)) &&& 1085102592571150095).toUInt64 >>> ((8 : Int32).toInt64.toUInt64 &&& Int64.toUInt64 63)).toInt64)).toUInt64 >>> ((16 : Int32).toInt64.toUInt64 &&& Int64.toUInt64 63)).toInt64)).toUInt64 >>> ((32 : Int32).toInt64.toUInt64 &&& Int64.toUInt64 63)).toInt64)))]) hx hb dJ13_bitCount_95d88_54 rfl hl (by decide) rfl (fun ls hl => ?_)
  refine lv_lload_n hx hb dJ13_bitCount_95d88_55 rfl (lv_at hl 0 rfl) ?_
  refine lv_l2i (v := ((((((((x0 - (((x0.toUInt64 >>> ((1 : Int32).toInt64.toUInt64 &&& Int64.toUInt64 63)).toInt64) &&& 6148914691236517205)) &&& 3689348814741910323) + ((((x0 - (((x0.toUInt64 >>> ((1 : Int32).toInt64.toUInt64 &&& Int64.toUInt64 63)).toInt64) &&& 6148914691236517205)).toUInt64 >>> ((2 : Int32).toInt64.toUInt64 &&& Int64.toUInt64 63)).toInt64) &&& 3689348814741910323)) + (((((x0 - (((x0.toUInt64 >>> ((1 : Int32).toInt64.toUInt64 &&& Int64.toUInt64 63)).toInt64) &&& 6148914691236517205)) &&& 3689348814741910323) + ((((x0 - (((x0.toUInt64 >>> ((1 : Int32).toInt64.toUInt64 &&& Int64.toUInt64 63)).toInt64) &&& 6148914691236517205)).toUInt64 >>> ((2 : Int32).toInt64.toUInt64 &&& Int64.toUInt64 63)).toInt64) &&& 3689348814741910323)).toUInt64 >>> ((4 : Int32).toInt64.toUInt64 &&& Int64.toUInt64 63)).toInt64)) &&& 1085102592571150095) + (((((((x0 - (((x0.toUInt64 >>> ((1 : Int32).toInt64.toUInt64 &&& Int64.toUInt64 63)).toInt64) &&& 6148914691236517205)) &&& 3689348814741910323) + ((((x0 - (((x0.toUInt64 >>> ((1 : Int32).toInt64.toUInt64 &&& Int64.toUInt64 63)).toInt64) &&& 6148914691236517205)).toUInt64 >>> ((2 : Int32).toInt64.toUInt64 &&& Int64.toUInt64 63)).toInt64) &&& 3689348814741910323)) + (((((x0 - (((x0.toUInt64 >>> ((1 : Int32).toInt64.toUInt64 &&& Int64.toUInt64 63)).toInt64) &&& 6148914691236517205)) &&& 3689348814741910323) + ((((x0 - (((x0.toUInt64 >>> ((1 : Int32).toInt64.toUInt64 &&& Int64.toUInt64 63)).toInt64) &&& 6148914691236517205)).toUInt64 >>> ((2 : Int32).toInt64.toUInt64 &&& Int64.toUInt64 63)).toInt64) &&& 3689348814741910323)).toUInt64 >>> ((4 : Int32).toInt64.toUInt64 &&& Int64.toUInt64 63)).toInt64)) &&& 1085102592571150095).toUInt64 >>> ((8 : Int32).toInt64.toUInt64 &&& Int64.toUInt64 63)).toInt64)) + ((((((((x0 - (((x0.toUInt64 >>> ((1 : Int32).toInt64.toUInt64 &&& Int64.toUInt64 63)).toInt64) &&& 6148914691236517205)) &&& 3689348814741910323) + ((((x0 - (((x0.toUInt64 >>> ((1 : Int32).toInt64.toUInt64 &&& Int64.toUInt64 63)).toInt64) &&& 6148914691236517205)).toUInt64 >>> ((2 : Int32).toInt64.toUInt64 &&& Int64.toUInt64 63)).toInt64) &&& 3689348814741910323)) + (((((x0 - (((x0.toUInt64 >>> ((1 : Int32).toInt64.toUInt64 &&& Int64.toUInt64 63)).toInt64) &&& 6148914691236517205)) &&& 3689348814741910323) + ((((x0 - (((x0.toUInt64 >>> ((1 : Int32).toInt64.toUInt64 &&& Int64.toUInt64 63)).toInt64) &&& 6148914691236517205)).toUInt64 >>> ((2 : Int32).toInt64.toUInt64 &&& Int64.toUInt64 63)).toInt64) &&& 3689348814741910323)).toUInt64 >>> ((4 : Int32).toInt64.toUInt64 &&& Int64.toUInt64 63)).toInt64)) &&& 1085102592571150095) + (((((((x0 - (((x0.toUInt64 >>> ((1 : Int32).toInt64.toUInt64 &&& Int64.toUInt64 63)).toInt64) &&& 6148914691236517205)) &&& 3689348814741910323) + ((((x0 - (((x0.toUInt64 >>> ((1 : Int32).toInt64.toUInt64 &&& Int64.toUInt64 63)).toInt64) &&& 6148914691236517205)).toUInt64 >>> ((2 : Int32).toInt64.toUInt64 &&& Int64.toUInt64 63)).toInt64) &&& 3689348814741910323)) + (((((x0 - (((x0.toUInt64 >>> ((1 : Int32).toInt64.toUInt64 &&& Int64.toUInt64 63)).toInt64) &&& 6148914691236517205)) &&& 3689348814741910323) + ((((x0 - (((x0.toUInt64 >>> ((1 : Int32).toInt64.toUInt64 &&& Int64.toUInt64 63)).toInt64) &&& 6148914691236517205)).toUInt64 >>> ((2 : Int32).toInt64.toUInt64 &&& Int64.toUInt64 63)).toInt64) &&& 3689348814741910323)).toUInt64 >>> ((4 : Int32).toInt64.toUInt64 &&& Int64.toUInt64 63)).toInt64)) &&& 1085102592571150095).toUInt64 >>> ((8 : Int32).toInt64.toUInt64 &&& Int64.toUInt64 63)).toInt64)).toUInt64 >>> ((16 : Int32).toInt64.toUInt64 &&& Int64.toUInt64 63)).toInt64)) + (((((((((x0 - (((x0.toUInt64 >>> ((1 : Int32).toInt64.toUInt64 &&& Int64.toUInt64 63)).toInt64) &&& 6148914691236517205)) &&& 3689348814741910323) + ((((x0 - (((x0.toUInt64 >>> ((1 : Int32).toInt64.toUInt64 &&& Int64.toUInt64 63)).toInt64) &&& 6148914691236517205)).toUInt64 >>> ((2 : Int32).toInt64.toUInt64 &&& Int64.toUInt64 63)).toInt64) &&& 3689348814741910323)) + (((((x0 - (((x0.toUInt64 >>> ((1 : Int32).toInt64.toUInt64 &&& Int64.toUInt64 63)).toInt64) &&& 6148914691236517205)) &&& 3689348814741910323) + ((((x0 - (((x0.toUInt64 >>> ((1 : Int32).toInt64.toUInt64 &&& Int64.toUInt64 63)).toInt64) &&& 6148914691236517205)).toUInt64 >>> ((2 : Int32).toInt64.toUInt64 &&& Int64.toUInt64 63)).toInt64) &&& 3689348814741910323)).toUInt64 >>> ((4 : Int32).toInt64.toUInt64 &&& Int64.toUInt64 63)).toInt64)) &&& 1085102592571150095) + (((((((x0 - (((x0.toUInt64 >>> ((1 : Int32).toInt64.toUInt64 &&& Int64.toUInt64 63)).toInt64) &&& 6148914691236517205)) &&& 3689348814741910323) + ((((x0 - (((x0.toUInt64 >>> ((1 : Int32).toInt64.toUInt64 &&& Int64.toUInt64 63)).toInt64) &&& 6148914691236517205)).toUInt64 >>> ((2 : Int32).toInt64.toUInt64 &&& Int64.toUInt64 63)).toInt64) &&& 3689348814741910323)) + (((((x0 - (((x0.toUInt64 >>> ((1 : Int32).toInt64.toUInt64 &&& Int64.toUInt64 63)).toInt64) &&& 6148914691236517205)) &&& 3689348814741910323) + ((((x0 - (((x0.toUInt64 >>> ((1 : Int32).toInt64.toUInt64 &&& Int64.toUInt64 63)).toInt64) &&& 6148914691236517205)).toUInt64 >>> ((2 : Int32).toInt64.toUInt64 &&& Int64.toUInt64 63)).toInt64) &&& 3689348814741910323)).toUInt64 >>> ((4 : Int32).toInt64.toUInt64 &&& Int64.toUInt64 63)).toInt64)) &&& 1085102592571150095).toUInt64 >>> ((8 : Int32).toInt64.toUInt64 &&& Int64.toUInt64 63)).toInt64)) + ((((((((x0 - (((x0.toUInt64 >>> ((1 : Int32).toInt64.toUInt64 &&& Int64.toUInt64 63)).toInt64) &&& 6148914691236517205)) &&& 3689348814741910323) + ((((x0 - (((x0.toUInt64 >>> ((1 : Int32).toInt64.toUInt64 &&& Int64.toUInt64 63)).toInt64) &&& 6148914691236517205)).toUInt64 >>> ((2 : Int32).toInt64.toUInt64 &&& Int64.toUInt64 63)).toInt64) &&& 3689348814741910323)) + (((((x0 - (((x0.toUInt64 >>> ((1 : Int32).toInt64.toUInt64 &&& Int64.toUInt64 63)).toInt64) &&& 6148914691236517205)) &&& 3689348814741910323) + ((((x0 - (((x0.toUInt64 >>> ((1 : Int32).toInt64.toUInt64 &&& Int64.toUInt64 63)).toInt64) &&& 6148914691236517205)).toUInt64 >>> ((2 : Int32).toInt64.toUInt64 &&& Int64.toUInt64 63)).toInt64) &&& 3689348814741910323)).toUInt64 >>> ((4 : Int32).toInt64.toUInt64 &&& Int64.toUInt64 63)).toInt64)) &&& 1085102592571150095) + (((((((x0 - (((x0.toUInt64 >>> ((1 : Int32).toInt64.toUInt64 &&& Int64.toUInt64 63)).toInt64) &&& 6148914691236517205)) &&& 3689348814741910323) + ((((x0 - (((x0.toUInt64 >>> ((1 : Int32).toInt64.toUInt64 &&& Int64.toUInt64 63)).toInt64) &&& 6148914691236517205)).toUInt64 >>> ((2 : Int32).toInt64.toUInt64 &&& Int64.toUInt64 63)).toInt64) &&& 3689348814741910323)) + (((((x0 - (((x0.toUInt64 >>> ((1 : Int32).toInt64.toUInt64 &&& Int64.toUInt64 63)).toInt64) &&& 6148914691236517205)) &&& 3689348814741910323) + ((((x0 - (((x0.toUInt64 >>> ((1 : Int32).toInt64.toUInt64 &&& Int64.toUInt64 63)).toInt64) &&& 6148914691236517205)).toUInt64 >>> ((2 : Int32).toInt64.toUInt64 &&& Int64.toUInt64 63)).toInt64) &&& 3689348814741910323)).toUInt64 >>> ((4 : Int32).toInt64.toUInt64 &&& Int64.toUInt64 63)).toInt64)) &&& 1085102592571150095).toUInt64 >>> ((8 : Int32).toInt64.toUInt64 &&& Int64.toUInt64 63)).toInt64)).toUInt64 >>> ((16 : Int32).toInt64.toUInt64 &&& Int64.toUInt64 63)).toInt64)).toUInt64 >>> ((32 : Int32).toInt64.toUInt64 &&& Int64.toUInt64 63)).toInt64)).toInt32) hx hb dJ13_bitCount_95d88_56 rfl ?_
  refine lv_bipush (v := 127) hx hb dJ13_bitCount_95d88_57 (by decide) ?_
  refine lv_iand hx hb dJ13_bitCount_95d88_59 ?_
  exact jr_iret hx hb hr hlocks dJ13_bitCount_95d88_60 (by simp only [j_J13_bitCount_95d88])

abbrev rX2_isCard : Room := { frames := 0, cells := 0, slots := 0, locals := 0 }
def j_X2_isCard (x0 : Int32) : Int32 := (if x0 < 0 then 0 else (if 42 ≤ x0 then 0 else 1))
set_option maxRecDepth 100000 in
set_option maxHeartbeats 4000000 in
theorem c_X2_isCard {l : Launch} {D : va_G} (x0 : Int32) : jR l yX2_isCard wsX2_isCard rX2_isCard D [.int x0] [] [] (.int (j_X2_isCard x0)) := by
  refine jR_of (cc := cX2_isCard) (maxL := 1) (ret := (some .boolean)) (by decide) rfl (Nat.le_of_ble_eq_true rfl) ?_
  intro p e s m below meth c ls S hr hlocks hP hK hN hl
  obtain ⟨hx, hb, hml, hown, hts⟩ := id S
  have hl : lv_has ls 1 [(0, .int x0)] := hl
  refine lv_iload_n hx hb dX2_isCard_0 rfl (lv_at hl 0 rfl) ?_
  refine lv_if_lt (tgt := 14) hx hb dX2_isCard_1 (by decide) (fun c_1 => ?_) (fun c_1 => ?_)
  · skip
    refine lv_iconst (v := 0) hx hb dX2_isCard_14 (by decide) ?_
    exact jr_zret hx hb hr hlocks dX2_isCard_15 rfl (by simp only [j_X2_isCard, if_pos c_1])
  · skip
    refine lv_iload_n hx hb dX2_isCard_4 rfl (lv_at hl 0 rfl) ?_
    refine lv_bipush (v := 42) hx hb dX2_isCard_5 (by decide) ?_
    refine lv_icmp_ge (tgt := 14) hx hb dX2_isCard_7 (by decide) (fun c_2 => ?_) (fun c_2 => ?_)
    · skip
      refine lv_iconst (v := 0) hx hb dX2_isCard_14 (by decide) ?_
      exact jr_zret hx hb hr hlocks dX2_isCard_15 rfl (by simp only [j_X2_isCard, if_neg c_1, if_pos c_2])
    · skip
      refine lv_iconst (v := 1) hx hb dX2_isCard_10 (by decide) ?_
      refine lv_goto (tgt := 15) hx hb dX2_isCard_11 (by decide) ?_
      exact jr_zret hx hb hr hlocks dX2_isCard_15 rfl (by simp only [j_X2_isCard, if_neg c_1, if_neg c_2])

abbrev rX2_isArchivist : Room := { frames := 0, cells := 0, slots := 0, locals := 0 }
def j_X2_isArchivist (x0 : Int32) : Int32 := (if x0 = 0 then 1 else (if x0 = 1 then 1 else 0))
set_option maxRecDepth 100000 in
set_option maxHeartbeats 4000000 in
theorem c_X2_isArchivist {l : Launch} {D : va_G} (x0 : Int32) : jR l yX2_isArchivist wsX2_isArchivist rX2_isArchivist D [.int x0] [] [] (.int (j_X2_isArchivist x0)) := by
  refine jR_of (cc := cX2_isArchivist) (maxL := 1) (ret := (some .boolean)) (by decide) rfl (Nat.le_of_ble_eq_true rfl) ?_
  intro p e s m below meth c ls S hr hlocks hP hK hN hl
  obtain ⟨hx, hb, hml, hown, hts⟩ := id S
  have hl : lv_has ls 1 [(0, .int x0)] := hl
  refine lv_iload_n hx hb dX2_isArchivist_0 rfl (lv_at hl 0 rfl) ?_
  refine lv_if_eq (tgt := 9) hx hb dX2_isArchivist_1 (by decide) (fun c_1 => ?_) (fun c_1 => ?_)
  · skip
    refine lv_iconst (v := 1) hx hb dX2_isArchivist_9 (by decide) ?_
    refine lv_goto (tgt := 14) hx hb dX2_isArchivist_10 (by decide) ?_
    exact jr_zret hx hb hr hlocks dX2_isArchivist_14 rfl (by simp only [j_X2_isArchivist, if_pos c_1])
  · skip
    refine lv_iload_n hx hb dX2_isArchivist_4 rfl (lv_at hl 0 rfl) ?_
    refine lv_iconst (v := 1) hx hb dX2_isArchivist_5 (by decide) ?_
    refine lv_icmp_ne (tgt := 13) hx hb dX2_isArchivist_6 (by decide) (fun c_2 => ?_) (fun c_2 => ?_)
    · skip
      refine lv_iconst (v := 0) hx hb dX2_isArchivist_13 (by decide) ?_
      exact jr_zret hx hb hr hlocks dX2_isArchivist_14 rfl (by simp only [j_X2_isArchivist, if_neg c_1, if_neg c_2])
    · skip
      refine lv_iconst (v := 1) hx hb dX2_isArchivist_9 (by decide) ?_
      refine lv_goto (tgt := 14) hx hb dX2_isArchivist_10 (by decide) ?_
      exact jr_zret hx hb hr hlocks dX2_isArchivist_14 rfl (by simp only [j_X2_isArchivist, if_neg c_1, if_pos c_2])

abbrev rX2_isMildew : Room := { frames := 0, cells := 0, slots := 0, locals := 0 }
def j_X2_isMildew (x0 : Int32) : Int32 := (if x0 < 40 then 0 else 1)
set_option maxRecDepth 100000 in
set_option maxHeartbeats 4000000 in
theorem c_X2_isMildew {l : Launch} {D : va_G} (x0 : Int32) : jR l yX2_isMildew wsX2_isMildew rX2_isMildew D [.int x0] [] [] (.int (j_X2_isMildew x0)) := by
  refine jR_of (cc := cX2_isMildew) (maxL := 1) (ret := (some .boolean)) (by decide) rfl (Nat.le_of_ble_eq_true rfl) ?_
  intro p e s m below meth c ls S hr hlocks hP hK hN hl
  obtain ⟨hx, hb, hml, hown, hts⟩ := id S
  have hl : lv_has ls 1 [(0, .int x0)] := hl
  refine lv_iload_n hx hb dX2_isMildew_0 rfl (lv_at hl 0 rfl) ?_
  refine lv_bipush (v := 40) hx hb dX2_isMildew_1 (by decide) ?_
  refine lv_icmp_lt (tgt := 10) hx hb dX2_isMildew_3 (by decide) (fun c_1 => ?_) (fun c_1 => ?_)
  · skip
    refine lv_iconst (v := 0) hx hb dX2_isMildew_10 (by decide) ?_
    exact jr_zret hx hb hr hlocks dX2_isMildew_11 rfl (by simp only [j_X2_isMildew, if_pos c_1])
  · skip
    refine lv_iconst (v := 1) hx hb dX2_isMildew_6 (by decide) ?_
    refine lv_goto (tgt := 11) hx hb dX2_isMildew_7 (by decide) ?_
    exact jr_zret hx hb hr hlocks dX2_isMildew_11 rfl (by simp only [j_X2_isMildew, if_neg c_1])

abbrev rX2_bit : Room := { frames := 0, cells := 0, slots := 0, locals := 0 }
def j_X2_bit (x0 : Int32) : Int64 := (1 : Int64) <<< (x0.toInt64 &&& 63)
set_option maxRecDepth 100000 in
set_option maxHeartbeats 4000000 in
theorem c_X2_bit {l : Launch} {D : va_G} (x0 : Int32) : jR l yX2_bit wsX2_bit rX2_bit D [.int x0] [] [] (.long (j_X2_bit x0)) := by
  refine jR_of (cc := cX2_bit) (maxL := 1) (ret := (some .long)) (by decide) rfl (Nat.le_of_ble_eq_true rfl) ?_
  intro p e s m below meth c ls S hr hlocks hP hK hN hl
  obtain ⟨hx, hb, hml, hown, hts⟩ := id S
  have hl : lv_has ls 1 [(0, .int x0)] := hl
  refine lv_lconst (v := 1) hx hb dX2_bit_0 (by decide) ?_
  refine lv_iload_n hx hb dX2_bit_1 rfl (lv_at hl 0 rfl) ?_
  refine lv_lshl (v := (1 : Int64) <<< (x0.toInt64 &&& 63)) hx hb dX2_bit_2 rfl ?_
  exact jr_lret hx hb hr hlocks dX2_bit_3 (by simp only [j_X2_bit])

abbrev rX2_has : Room := { frames := 0, cells := 0, slots := 0, locals := 0 }
def j_X2_has (x0 : Int64) (x1 : Int32) : Int32 := (if lg_cmp (((x0.toUInt64 >>> ((x1 : Int32).toInt64.toUInt64 &&& Int64.toUInt64 63)).toInt64) &&& 1) 0 = 0 then 0 else 1)
set_option maxRecDepth 100000 in
set_option maxHeartbeats 4000000 in
theorem c_X2_has {l : Launch} {D : va_G} (x0 : Int64) (x1 : Int32) : jR l yX2_has wsX2_has rX2_has D [.long x0, .int x1] [] [] (.int (j_X2_has x0 x1)) := by
  refine jR_of (cc := cX2_has) (maxL := 3) (ret := (some .boolean)) (by decide) rfl (Nat.le_of_ble_eq_true rfl) ?_
  intro p e s m below meth c ls S hr hlocks hP hK hN hl
  obtain ⟨hx, hb, hml, hown, hts⟩ := id S
  have hl : lv_has ls 3 [(0, .long x0), (2, .int x1)] := hl
  refine lv_lload_n hx hb dX2_has_0 rfl (lv_at hl 0 rfl) ?_
  refine lv_iload_n hx hb dX2_has_1 rfl (lv_at hl 1 rfl) ?_
  refine lv_lushr (v := (x0.toUInt64 >>> ((x1 : Int32).toInt64.toUInt64 &&& Int64.toUInt64 63)).toInt64) hx hb dX2_has_2 rfl ?_
  refine lv_lconst (v := 1) hx hb dX2_has_3 (by decide) ?_
  refine lv_land hx hb dX2_has_4 ?_
  refine lv_lconst (v := 0) hx hb dX2_has_5 (by decide) ?_
  refine W.lcmp hx hb dX2_has_6 ?_
  refine lv_if_eq (tgt := 14) hx hb dX2_has_7 (by decide) (fun c_1 => ?_) (fun c_1 => ?_)
  · skip
    refine lv_iconst (v := 0) hx hb dX2_has_14 (by decide) ?_
    exact jr_zret hx hb hr hlocks dX2_has_15 rfl (by simp only [j_X2_has, if_pos c_1])
  · skip
    refine lv_iconst (v := 1) hx hb dX2_has_10 (by decide) ?_
    refine lv_goto (tgt := 15) hx hb dX2_has_11 (by decide) ?_
    exact jr_zret hx hb hr hlocks dX2_has_15 rfl (by simp only [j_X2_has, if_neg c_1])

abbrev rX2_allOf : Room := { frames := 0, cells := 0, slots := 0, locals := 0 }
def j_X2_allOf (x0 : Int32) : Int64 := (1023 : Int64) <<< ((x0 * 10).toInt64 &&& 63)
set_option maxRecDepth 100000 in
set_option maxHeartbeats 4000000 in
theorem c_X2_allOf {l : Launch} {D : va_G} (x0 : Int32) : jR l yX2_allOf wsX2_allOf rX2_allOf D [.int x0] [] [] (.long (j_X2_allOf x0)) := by
  refine jR_of (cc := cX2_allOf) (maxL := 1) (ret := (some .long)) (by decide) rfl (Nat.le_of_ble_eq_true rfl) ?_
  intro p e s m below meth c ls S hr hlocks hP hK hN hl
  obtain ⟨hx, hb, hml, hown, hts⟩ := id S
  have hl : lv_has ls 1 [(0, .int x0)] := hl
  refine lv_ldc2 (v := 1023) hx hb hown (hts (.constantLong RX2 218 (1023)) (by decide +kernel)) dX2_allOf_0 ?_
  refine lv_iload_n hx hb dX2_allOf_3 rfl (lv_at hl 0 rfl) ?_
  refine lv_bipush (v := 10) hx hb dX2_allOf_4 (by decide) ?_
  refine lv_imul hx hb dX2_allOf_6 ?_
  refine lv_lshl (v := (1023 : Int64) <<< ((x0 * 10).toInt64 &&& 63)) hx hb dX2_allOf_7 rfl ?_
  exact jr_lret hx hb hr hlocks dX2_allOf_8 (by simp only [j_X2_allOf])

abbrev rX2_worth : Room := { frames := 1, cells := 0, slots := 0, locals := 20 }
def j_X2_worth (x0 : Int32) (x1 : Int32) : Int32 := (if j_X2_isMildew x0 = 0 then 10 - (x0 - x0 / 10 * 10) else (if x1 = 0 then (-5) else 0))
set_option maxRecDepth 100000 in
set_option maxHeartbeats 4000000 in
theorem c_X2_worth {l : Launch} {D : va_G} (x0 : Int32) (x1 : Int32) : jR l yX2_worth wsX2_worth rX2_worth D [.int x0, .int x1] [] [] (.int (j_X2_worth x0 x1)) := by
  refine jR_of (cc := cX2_worth) (maxL := 2) (ret := (some .int)) (by decide) rfl (Nat.le_of_ble_eq_true rfl) ?_
  intro p e s m below meth c ls S hr hlocks hP hK hN hl
  obtain ⟨hx, hb, hml, hown, hts⟩ := id S
  have hl : lv_has ls 2 [(0, .int x0), (1, .int x1)] := hl
  refine lv_iload_n hx hb dX2_worth_0 rfl (lv_at hl 0 rfl) ?_
  refine jr_callS (n := 1) (As := [.int x0]) (rest := []) S (c_X2_isMildew x0) gX2_worth_X2_isMildew rfl (by decide +kernel) rfl ⟨⟨rfl, rfl⟩, ⟨Nat.le_of_ble_eq_true rfl, Nat.le_of_ble_eq_true rfl⟩, Nat.le_of_ble_eq_true rfl, Nat.le_of_ble_eq_true rfl⟩ hP hK hN [] [] rfl rfl (lv_nil hl) rfl (Nat.le_of_ble_eq_true rfl) dX2_worth_1 ?_
  refine lv_if_eq (tgt := 18) hx hb dX2_worth_4 (by decide) (fun c_1 => ?_) (fun c_1 => ?_)
  · skip
    refine lv_bipush (v := 10) hx hb dX2_worth_18 (by decide) ?_
    refine lv_iload_n hx hb dX2_worth_20 rfl (lv_at hl 0 rfl) ?_
    refine lv_bipush (v := 10) hx hb dX2_worth_21 (by decide) ?_
    refine lv_irem hx hb dX2_worth_23 (by decide) ?_
    refine lv_isub hx hb dX2_worth_24 ?_
    exact jr_iret hx hb hr hlocks dX2_worth_25 (by simp only [j_X2_worth, if_pos c_1])
  · skip
    refine lv_iload_n hx hb dX2_worth_7 rfl (lv_at hl 1 rfl) ?_
    refine lv_if_eq (tgt := 15) hx hb dX2_worth_8 (by decide) (fun c_2 => ?_) (fun c_2 => ?_)
    · skip
      refine lv_bipush (v := (-5)) hx hb dX2_worth_15 (by decide) ?_
      exact jr_iret hx hb hr hlocks dX2_worth_17 (by simp only [j_X2_worth, if_neg c_1, if_pos c_2])
    · skip
      refine lv_iconst (v := 0) hx hb dX2_worth_11 (by decide) ?_
      refine lv_goto (tgt := 17) hx hb dX2_worth_12 (by decide) ?_
      exact jr_iret hx hb hr hlocks dX2_worth_17 (by simp only [j_X2_worth, if_neg c_1, if_neg c_2])

abbrev rX2_beats : Room := { frames := 1, cells := 0, slots := 0, locals := 20 }
def j_X2_beats (x0 : Int32) (x1 : Int32) (x2 : Int32) : Int32 := (if j_X2_isMildew x0 = 0 then (if j_X2_isMildew x1 = 0 then (if x0 / 10 = x1 / 10 then (if x1 ≤ x0 then 0 else 1) else (if x0 / 10 = x2 then 1 else 0)) else 1) else 0)
set_option maxRecDepth 100000 in
set_option maxHeartbeats 4000000 in
theorem c_X2_beats {l : Launch} {D : va_G} (x0 : Int32) (x1 : Int32) (x2 : Int32) : jR l yX2_beats wsX2_beats rX2_beats D [.int x0, .int x1, .int x2] [] [] (.int (j_X2_beats x0 x1 x2)) := by
  refine jR_of (cc := cX2_beats) (maxL := 3) (ret := (some .boolean)) (by decide) rfl (Nat.le_of_ble_eq_true rfl) ?_
  intro p e s m below meth c ls S hr hlocks hP hK hN hl
  obtain ⟨hx, hb, hml, hown, hts⟩ := id S
  have hl : lv_has ls 3 [(0, .int x0), (1, .int x1), (2, .int x2)] := hl
  refine lv_iload_n hx hb dX2_beats_0 rfl (lv_at hl 0 rfl) ?_
  refine jr_callS (n := 1) (As := [.int x0]) (rest := []) S (c_X2_isMildew x0) gX2_beats_X2_isMildew rfl (by decide +kernel) rfl ⟨⟨rfl, rfl⟩, ⟨Nat.le_of_ble_eq_true rfl, Nat.le_of_ble_eq_true rfl⟩, Nat.le_of_ble_eq_true rfl, Nat.le_of_ble_eq_true rfl⟩ hP hK hN [] [] rfl rfl (lv_nil hl) rfl (Nat.le_of_ble_eq_true rfl) dX2_beats_1 ?_
  refine lv_if_eq (tgt := 9) hx hb dX2_beats_4 (by decide) (fun c_1 => ?_) (fun c_1 => ?_)
  · skip
    refine lv_iload_n hx hb dX2_beats_9 rfl (lv_at hl 1 rfl) ?_
    refine jr_callS (n := 1) (As := [.int x1]) (rest := []) S (c_X2_isMildew x1) gX2_beats_X2_isMildew rfl (by decide +kernel) rfl ⟨⟨rfl, rfl⟩, ⟨Nat.le_of_ble_eq_true rfl, Nat.le_of_ble_eq_true rfl⟩, Nat.le_of_ble_eq_true rfl, Nat.le_of_ble_eq_true rfl⟩ hP hK hN [] [] rfl rfl (lv_nil hl) rfl (Nat.le_of_ble_eq_true rfl) dX2_beats_10 ?_
    refine lv_if_eq (tgt := 18) hx hb dX2_beats_13 (by decide) (fun c_2 => ?_) (fun c_2 => ?_)
    · skip
      refine lv_iload_n hx hb dX2_beats_18 rfl (lv_at hl 0 rfl) ?_
      refine lv_bipush (v := 10) hx hb dX2_beats_19 (by decide) ?_
      refine lv_idiv hx hb dX2_beats_21 (by decide) ?_
      refine lv_iload_n hx hb dX2_beats_22 rfl (lv_at hl 1 rfl) ?_
      refine lv_bipush (v := 10) hx hb dX2_beats_23 (by decide) ?_
      refine lv_idiv hx hb dX2_beats_25 (by decide) ?_
      refine lv_icmp_ne (tgt := 40) hx hb dX2_beats_26 (by decide) (fun c_3 => ?_) (fun c_3 => ?_)
      · skip
        refine lv_iload_n hx hb dX2_beats_40 rfl (lv_at hl 0 rfl) ?_
        refine lv_bipush (v := 10) hx hb dX2_beats_41 (by decide) ?_
        refine lv_idiv hx hb dX2_beats_43 (by decide) ?_
        refine lv_iload_n hx hb dX2_beats_44 rfl (lv_at hl 2 rfl) ?_
        refine lv_icmp_ne (tgt := 52) hx hb dX2_beats_45 (by decide) (fun c_4 => ?_) (fun c_4 => ?_)
        · skip
          refine lv_iconst (v := 0) hx hb dX2_beats_52 (by decide) ?_
          exact jr_zret hx hb hr hlocks dX2_beats_53 rfl (by simp only [j_X2_beats, if_pos c_1, if_pos c_2, if_neg c_3, if_neg c_4])
        · skip
          refine lv_iconst (v := 1) hx hb dX2_beats_48 (by decide) ?_
          refine lv_goto (tgt := 53) hx hb dX2_beats_49 (by decide) ?_
          exact jr_zret hx hb hr hlocks dX2_beats_53 rfl (by simp only [j_X2_beats, if_pos c_1, if_pos c_2, if_neg c_3, if_pos c_4])
      · skip
        refine lv_iload_n hx hb dX2_beats_29 rfl (lv_at hl 0 rfl) ?_
        refine lv_iload_n hx hb dX2_beats_30 rfl (lv_at hl 1 rfl) ?_
        refine lv_icmp_ge (tgt := 38) hx hb dX2_beats_31 (by decide) (fun c_5 => ?_) (fun c_5 => ?_)
        · skip
          refine lv_iconst (v := 0) hx hb dX2_beats_38 (by decide) ?_
          exact jr_zret hx hb hr hlocks dX2_beats_39 rfl (by simp only [j_X2_beats, if_pos c_1, if_pos c_2, if_pos c_3, if_pos c_5])
        · skip
          refine lv_iconst (v := 1) hx hb dX2_beats_34 (by decide) ?_
          refine lv_goto (tgt := 39) hx hb dX2_beats_35 (by decide) ?_
          exact jr_zret hx hb hr hlocks dX2_beats_39 rfl (by simp only [j_X2_beats, if_pos c_1, if_pos c_2, if_pos c_3, if_neg c_5])
    · skip
      refine lv_iconst (v := 1) hx hb dX2_beats_16 (by decide) ?_
      exact jr_zret hx hb hr hlocks dX2_beats_17 rfl (by simp only [j_X2_beats, if_pos c_1, if_neg c_2])
  · skip
    refine lv_iconst (v := 0) hx hb dX2_beats_7 (by decide) ?_
    exact jr_zret hx hb hr hlocks dX2_beats_8 rfl (by simp only [j_X2_beats, if_neg c_1])

abbrev rX2_reasonAgainstLeading : Room := { frames := 1, cells := 0, slots := 0, locals := 20 }
def j_X2_reasonAgainstLeading (x0 : Int64) (x1 : Int32) : Int32 := (if j_X2_isMildew x1 = 0 then 0 else (if lg_cmp (x0 &&& 1099511627775) 0 = 0 then 0 else 3))
set_option maxRecDepth 100000 in
set_option maxHeartbeats 4000000 in
theorem c_X2_reasonAgainstLeading {l : Launch} {D : va_G} (x0 : Int64) (x1 : Int32) : jR l yX2_reasonAgainstLeading wsX2_reasonAgainstLeading rX2_reasonAgainstLeading D [.long x0, .int x1] [] [] (.int (j_X2_reasonAgainstLeading x0 x1)) := by
  refine jR_of (cc := cX2_reasonAgainstLeading) (maxL := 3) (ret := (some .int)) (by decide) rfl (Nat.le_of_ble_eq_true rfl) ?_
  intro p e s m below meth c ls S hr hlocks hP hK hN hl
  obtain ⟨hx, hb, hml, hown, hts⟩ := id S
  have hl : lv_has ls 3 [(0, .long x0), (2, .int x1)] := hl
  refine lv_iload_n hx hb dX2_reasonAgainstLeading_0 rfl (lv_at hl 1 rfl) ?_
  refine jr_callS (n := 1) (As := [.int x1]) (rest := []) S (c_X2_isMildew x1) gX2_reasonAgainstLeading_X2_isMildew rfl (by decide +kernel) rfl ⟨⟨rfl, rfl⟩, ⟨Nat.le_of_ble_eq_true rfl, Nat.le_of_ble_eq_true rfl⟩, Nat.le_of_ble_eq_true rfl, Nat.le_of_ble_eq_true rfl⟩ hP hK hN [] [] rfl rfl (lv_nil hl) rfl (Nat.le_of_ble_eq_true rfl) dX2_reasonAgainstLeading_1 ?_
  refine lv_if_eq (tgt := 21) hx hb dX2_reasonAgainstLeading_4 (by decide) (fun c_1 => ?_) (fun c_1 => ?_)
  · skip
    refine lv_iconst (v := 0) hx hb dX2_reasonAgainstLeading_21 (by decide) ?_
    exact jr_iret hx hb hr hlocks dX2_reasonAgainstLeading_22 (by simp only [j_X2_reasonAgainstLeading, if_pos c_1])
  · skip
    refine lv_lload_n hx hb dX2_reasonAgainstLeading_7 rfl (lv_at hl 0 rfl) ?_
    refine lv_ldc2 (v := 1099511627775) hx hb hown (hts (.constantLong RX2 220 (1099511627775)) (by decide +kernel)) dX2_reasonAgainstLeading_8 ?_
    refine lv_land hx hb dX2_reasonAgainstLeading_11 ?_
    refine lv_lconst (v := 0) hx hb dX2_reasonAgainstLeading_12 (by decide) ?_
    refine W.lcmp hx hb dX2_reasonAgainstLeading_13 ?_
    refine lv_if_eq (tgt := 21) hx hb dX2_reasonAgainstLeading_14 (by decide) (fun c_2 => ?_) (fun c_2 => ?_)
    · skip
      refine lv_iconst (v := 0) hx hb dX2_reasonAgainstLeading_21 (by decide) ?_
      exact jr_iret hx hb hr hlocks dX2_reasonAgainstLeading_22 (by simp only [j_X2_reasonAgainstLeading, if_neg c_1, if_pos c_2])
    · skip
      refine lv_iconst (v := 3) hx hb dX2_reasonAgainstLeading_17 (by decide) ?_
      refine lv_goto (tgt := 22) hx hb dX2_reasonAgainstLeading_18 (by decide) ?_
      exact jr_iret hx hb hr hlocks dX2_reasonAgainstLeading_22 (by simp only [j_X2_reasonAgainstLeading, if_neg c_1, if_neg c_2])

abbrev rX2_reasonAgainstReplying : Room := { frames := 1, cells := 0, slots := 0, locals := 22 }
def j_X2_reasonAgainstReplying (x0 : Int64) (x1 : Int32) (x2 : Int32) (x3 : Int32) : Int32 := (if j_X2_isMildew x2 = 0 then (if lg_cmp (x0 &&& (j_X2_allOf (x2 / 10))) 0 = 0 then (if lg_cmp (x0 &&& (j_X2_allOf x3)) 0 = 0 then 0 else (if j_X2_has (x0 &&& (j_X2_allOf x3)) x1 = 0 then 5 else 0)) else (if j_X2_has (x0 &&& (j_X2_allOf (x2 / 10))) x1 = 0 then 4 else 0)) else 0)
set_option maxRecDepth 100000 in
set_option maxHeartbeats 4000000 in
theorem c_X2_reasonAgainstReplying {l : Launch} {D : va_G} (x0 : Int64) (x1 : Int32) (x2 : Int32) (x3 : Int32) : jR l yX2_reasonAgainstReplying wsX2_reasonAgainstReplying rX2_reasonAgainstReplying D [.long x0, .int x1, .int x2, .int x3] [] [] (.int (j_X2_reasonAgainstReplying x0 x1 x2 x3)) := by
  refine jR_of (cc := cX2_reasonAgainstReplying) (maxL := 9) (ret := (some .int)) (by decide) rfl (Nat.le_of_ble_eq_true rfl) ?_
  intro p e s m below meth c ls S hr hlocks hP hK hN hl
  obtain ⟨hx, hb, hml, hown, hts⟩ := id S
  have hl : lv_has ls 9 [(0, .long x0), (2, .int x1), (3, .int x2), (4, .int x3)] := hl
  refine lv_iload_n hx hb dX2_reasonAgainstReplying_0 rfl (lv_at hl 2 rfl) ?_
  refine jr_callS (n := 1) (As := [.int x2]) (rest := []) S (c_X2_isMildew x2) gX2_reasonAgainstReplying_X2_isMildew rfl (by decide +kernel) rfl ⟨⟨rfl, rfl⟩, ⟨Nat.le_of_ble_eq_true rfl, Nat.le_of_ble_eq_true rfl⟩, Nat.le_of_ble_eq_true rfl, Nat.le_of_ble_eq_true rfl⟩ hP hK hN [] [] rfl rfl (lv_nil hl) rfl (Nat.le_of_ble_eq_true rfl) dX2_reasonAgainstReplying_1 ?_
  refine lv_if_eq (tgt := 9) hx hb dX2_reasonAgainstReplying_4 (by decide) (fun c_1 => ?_) (fun c_1 => ?_)
  · skip
    refine lv_lload_n hx hb dX2_reasonAgainstReplying_9 rfl (lv_at hl 0 rfl) ?_
    refine lv_iload_n hx hb dX2_reasonAgainstReplying_10 rfl (lv_at hl 2 rfl) ?_
    refine lv_bipush (v := 10) hx hb dX2_reasonAgainstReplying_11 (by decide) ?_
    refine lv_idiv hx hb dX2_reasonAgainstReplying_13 (by decide) ?_
    refine jr_callS (n := 1) (As := [.int (x2 / 10)]) (rest := [.long x0]) S (c_X2_allOf (x2 / 10)) gX2_reasonAgainstReplying_X2_allOf rfl (by decide +kernel) rfl ⟨⟨rfl, rfl⟩, ⟨Nat.le_of_ble_eq_true rfl, Nat.le_of_ble_eq_true rfl⟩, Nat.le_of_ble_eq_true rfl, Nat.le_of_ble_eq_true rfl⟩ hP hK hN [] [] rfl rfl (lv_nil hl) rfl (Nat.le_of_ble_eq_true rfl) dX2_reasonAgainstReplying_14 ?_
    refine lv_land hx hb dX2_reasonAgainstReplying_17 ?_
    refine lv_lstore (lv' := [(5, .long (x0 &&& (j_X2_allOf (x2 / 10)))), (0, .long x0), (2, .int x1), (3, .int x2), (4, .int x3)]) hx hb dX2_reasonAgainstReplying_18 hl (by decide) rfl (fun ls hl => ?_)
    refine lv_lload hx hb dX2_reasonAgainstReplying_20 (lv_at hl 0 rfl) ?_
    refine lv_lconst (v := 0) hx hb dX2_reasonAgainstReplying_22 (by decide) ?_
    refine W.lcmp hx hb dX2_reasonAgainstReplying_23 ?_
    refine lv_if_eq (tgt := 42) hx hb dX2_reasonAgainstReplying_24 (by decide) (fun c_2 => ?_) (fun c_2 => ?_)
    · skip
      refine lv_lload_n hx hb dX2_reasonAgainstReplying_42 rfl (lv_at hl 1 rfl) ?_
      refine lv_iload hx hb dX2_reasonAgainstReplying_43 (lv_at hl 4 rfl) ?_
      refine jr_callS (n := 1) (As := [.int x3]) (rest := [.long x0]) S (c_X2_allOf x3) gX2_reasonAgainstReplying_X2_allOf rfl (by decide +kernel) rfl ⟨⟨rfl, rfl⟩, ⟨Nat.le_of_ble_eq_true rfl, Nat.le_of_ble_eq_true rfl⟩, Nat.le_of_ble_eq_true rfl, Nat.le_of_ble_eq_true rfl⟩ hP hK hN [] [] rfl rfl (lv_nil hl) rfl (Nat.le_of_ble_eq_true rfl) dX2_reasonAgainstReplying_45 ?_
      refine lv_land hx hb dX2_reasonAgainstReplying_48 ?_
      refine lv_lstore (lv' := [(7, .long (x0 &&& (j_X2_allOf x3))), (5, .long (x0 &&& (j_X2_allOf (x2 / 10)))), (0, .long x0), (2, .int x1), (3, .int x2), (4, .int x3)]) hx hb dX2_reasonAgainstReplying_49 hl (by decide) rfl (fun ls hl => ?_)
      refine lv_lload hx hb dX2_reasonAgainstReplying_51 (lv_at hl 0 rfl) ?_
      refine lv_lconst (v := 0) hx hb dX2_reasonAgainstReplying_53 (by decide) ?_
      refine W.lcmp hx hb dX2_reasonAgainstReplying_54 ?_
      refine lv_if_eq (tgt := 73) hx hb dX2_reasonAgainstReplying_55 (by decide) (fun c_3 => ?_) (fun c_3 => ?_)
      · skip
        refine lv_iconst (v := 0) hx hb dX2_reasonAgainstReplying_73 (by decide) ?_
        exact jr_iret hx hb hr hlocks dX2_reasonAgainstReplying_74 (by simp only [j_X2_reasonAgainstReplying, if_pos c_1, if_pos c_2, if_pos c_3])
      · skip
        refine lv_lload hx hb dX2_reasonAgainstReplying_58 (lv_at hl 0 rfl) ?_
        refine lv_iload_n hx hb dX2_reasonAgainstReplying_60 rfl (lv_at hl 3 rfl) ?_
        refine jr_callS (n := 2) (As := [.long (x0 &&& (j_X2_allOf x3)), .int x1]) (rest := []) S (c_X2_has (x0 &&& (j_X2_allOf x3)) x1) gX2_reasonAgainstReplying_X2_has rfl (by decide +kernel) rfl ⟨⟨rfl, rfl⟩, ⟨Nat.le_of_ble_eq_true rfl, Nat.le_of_ble_eq_true rfl⟩, Nat.le_of_ble_eq_true rfl, Nat.le_of_ble_eq_true rfl⟩ hP hK hN [] [] rfl rfl (lv_nil hl) rfl (Nat.le_of_ble_eq_true rfl) dX2_reasonAgainstReplying_61 ?_
        refine lv_if_eq (tgt := 71) hx hb dX2_reasonAgainstReplying_64 (by decide) (fun c_4 => ?_) (fun c_4 => ?_)
        · skip
          refine lv_iconst (v := 5) hx hb dX2_reasonAgainstReplying_71 (by decide) ?_
          exact jr_iret hx hb hr hlocks dX2_reasonAgainstReplying_72 (by simp only [j_X2_reasonAgainstReplying, if_pos c_1, if_pos c_2, if_neg c_3, if_pos c_4])
        · skip
          refine lv_iconst (v := 0) hx hb dX2_reasonAgainstReplying_67 (by decide) ?_
          refine lv_goto (tgt := 72) hx hb dX2_reasonAgainstReplying_68 (by decide) ?_
          exact jr_iret hx hb hr hlocks dX2_reasonAgainstReplying_72 (by simp only [j_X2_reasonAgainstReplying, if_pos c_1, if_pos c_2, if_neg c_3, if_neg c_4])
    · skip
      refine lv_lload hx hb dX2_reasonAgainstReplying_27 (lv_at hl 0 rfl) ?_
      refine lv_iload_n hx hb dX2_reasonAgainstReplying_29 rfl (lv_at hl 2 rfl) ?_
      refine jr_callS (n := 2) (As := [.long (x0 &&& (j_X2_allOf (x2 / 10))), .int x1]) (rest := []) S (c_X2_has (x0 &&& (j_X2_allOf (x2 / 10))) x1) gX2_reasonAgainstReplying_X2_has rfl (by decide +kernel) rfl ⟨⟨rfl, rfl⟩, ⟨Nat.le_of_ble_eq_true rfl, Nat.le_of_ble_eq_true rfl⟩, Nat.le_of_ble_eq_true rfl, Nat.le_of_ble_eq_true rfl⟩ hP hK hN [] [] rfl rfl (lv_nil hl) rfl (Nat.le_of_ble_eq_true rfl) dX2_reasonAgainstReplying_30 ?_
      refine lv_if_eq (tgt := 40) hx hb dX2_reasonAgainstReplying_33 (by decide) (fun c_5 => ?_) (fun c_5 => ?_)
      · skip
        refine lv_iconst (v := 4) hx hb dX2_reasonAgainstReplying_40 (by decide) ?_
        exact jr_iret hx hb hr hlocks dX2_reasonAgainstReplying_41 (by simp only [j_X2_reasonAgainstReplying, if_pos c_1, if_neg c_2, if_pos c_5])
      · skip
        refine lv_iconst (v := 0) hx hb dX2_reasonAgainstReplying_36 (by decide) ?_
        refine lv_goto (tgt := 41) hx hb dX2_reasonAgainstReplying_37 (by decide) ?_
        exact jr_iret hx hb hr hlocks dX2_reasonAgainstReplying_41 (by simp only [j_X2_reasonAgainstReplying, if_pos c_1, if_neg c_2, if_neg c_5])
  · skip
    refine lv_iconst (v := 0) hx hb dX2_reasonAgainstReplying_7 (by decide) ?_
    exact jr_iret hx hb hr hlocks dX2_reasonAgainstReplying_8 (by simp only [j_X2_reasonAgainstReplying, if_neg c_1])
end
section
/-! THE CLASS: methods that read (laid by wip/p24/rows.py) -/
abbrev rX2_archivist : Room := { frames := 0, cells := 0, slots := 0, locals := 0 }
def j_X2_archivist (aF : Nat) (aG : Nat) (x0 : Int32) : Nat := (if x0 = 0 then aF else aG)
theorem inX2_archivist_X2 : ∀ w ∈ u_ws RX2 TX2 11, w ∈ wsX2_archivist := by decide +kernel
set_option maxRecDepth 100000 in
set_option maxHeartbeats 4000000 in
theorem c_X2_archivist {l : Launch} {D : va_G} (a0 : Nat) (aR : Nat) (aF : Nat) (aG : Nat) (cI : ClassId) (vrow : Nat → Int32) (vdrawn : Int32) (vtr : Int32) (vled : Int32) (vmov : Int32) (vw1 : Int32) (vw2 : Int32) (veo : Option Nat) (veb : Int32) (vh1 : Int64) (vt1 : Int64) (vp1 : Int32) (vk1 : Int32) (vg1 : Int32) (vh2 : Int64) (vt2 : Int64) (vp2 : Int32) (vk2 : Int32) (vg2 : Int32) (x0 : Int32) : jR l yX2_archivist wsX2_archivist rX2_archivist D [.ref a0, .int x0] (jC a0 aR aF aG cI vrow vdrawn vtr vled vmov vw1 vw2 veo veb vh1 vt1 vp1 vk1 vg1 vh2 vt2 vp2 vk2 vg2) [(cI, .int)] (.ref (j_X2_archivist aF aG x0)) := by
  refine jR_of (cc := cX2_archivist) (maxL := 2) (ret := (some (.object "ArchivistTricks$Archivist"))) (by decide) rfl (Nat.le_of_ble_eq_true rfl) ?_
  intro p e s m below meth c ls S hr hlocks hP hK hN hl
  obtain ⟨hx, hb, hml, hown, hts⟩ := id S
  have hl : lv_has ls 2 [(0, .ref a0), (1, .int x0)] := hl
  refine lv_iload_n hx hb dX2_archivist_0 rfl (lv_at hl 1 rfl) ?_
  refine lv_if_ne (tgt := 11) hx hb dX2_archivist_1 (by decide) (fun c_1 => ?_) (fun c_1 => ?_)
  · skip
    refine lv_aload_n hx hb dX2_archivist_11 rfl (lv_at hl 0 rfl) ?_
    refine va_get (D := D) (ci := 2) (v := .ref aG) (C := RX2) (T := TX2) (N := 11) hx hb hts inX2_archivist_X2 hown hK hP 0 rfl rfl 2 (by decide) (hts (.fieldLink RX2 20 "ArchivistTricks" "second" "LArchivistTricks$Archivist;") (by decide +kernel)) (fun _ h9 => h9) rfl dX2_archivist_12 ?_
    exact jr_aret hx hb hr hlocks dX2_archivist_15 (by simp only [j_X2_archivist, if_neg c_1])
  · skip
    refine lv_aload_n hx hb dX2_archivist_4 rfl (lv_at hl 0 rfl) ?_
    refine va_get (D := D) (ci := 2) (v := .ref aF) (C := RX2) (T := TX2) (N := 11) hx hb hts inX2_archivist_X2 hown hK hP 0 rfl rfl 1 (by decide) (hts (.fieldLink RX2 16 "ArchivistTricks" "first" "LArchivistTricks$Archivist;") (by decide +kernel)) (fun _ h9 => h9) rfl dX2_archivist_5 ?_
    refine lv_goto (tgt := 15) hx hb dX2_archivist_8 (by decide) ?_
    exact jr_aret hx hb hr hlocks dX2_archivist_15 (by simp only [j_X2_archivist, if_pos c_1])

abbrev rX2_moversHand : Room := { frames := 1, cells := 0, slots := 0, locals := 21 }
def j_X2_moversHand (vmov : Int32) (vh1 : Int64) (vh2 : Int64) : Int64 := (if vmov = 0 then vh1 else vh2)
theorem inX2_moversHand_X0 : ∀ w ∈ u_ws RX0 TX0 5, w ∈ wsX2_moversHand := by decide +kernel
theorem inX2_moversHand_X2 : ∀ w ∈ u_ws RX2 TX2 11, w ∈ wsX2_moversHand := by decide +kernel
set_option maxRecDepth 100000 in
set_option maxHeartbeats 4000000 in
theorem c_X2_moversHand {l : Launch} {D : va_G} (a0 : Nat) (aR : Nat) (aF : Nat) (aG : Nat) (cI : ClassId) (vrow : Nat → Int32) (vdrawn : Int32) (vtr : Int32) (vled : Int32) (vmov : Int32) (vw1 : Int32) (vw2 : Int32) (veo : Option Nat) (veb : Int32) (vh1 : Int64) (vt1 : Int64) (vp1 : Int32) (vk1 : Int32) (vg1 : Int32) (vh2 : Int64) (vt2 : Int64) (vp2 : Int32) (vk2 : Int32) (vg2 : Int32) : jR l yX2_moversHand wsX2_moversHand rX2_moversHand D [.ref a0] (jC a0 aR aF aG cI vrow vdrawn vtr vled vmov vw1 vw2 veo veb vh1 vt1 vp1 vk1 vg1 vh2 vt2 vp2 vk2 vg2) [(cI, .int)] (.long (j_X2_moversHand vmov vh1 vh2)) := by
  refine jR_of (cc := cX2_moversHand) (maxL := 1) (ret := (some .long)) (by decide) rfl (Nat.le_of_ble_eq_true rfl) ?_
  intro p e s m below meth c ls S hr hlocks hP hK hN hl
  obtain ⟨hx, hb, hml, hown, hts⟩ := id S
  have hl : lv_has ls 1 [(0, .ref a0)] := hl
  refine lv_aload_n hx hb dX2_moversHand_0 rfl (lv_at hl 0 rfl) ?_
  refine lv_aload_n hx hb dX2_moversHand_1 rfl (lv_at hl 0 rfl) ?_
  refine va_get (D := D) (ci := 2) (v := .int vmov) (C := RX2) (T := TX2) (N := 11) hx hb hts inX2_moversHand_X2 hown hK hP 0 rfl rfl 6 (by decide) (hts (.fieldLink RX2 33 "ArchivistTricks" "mover" "I") (by decide +kernel)) (fun _ h9 => h9) rfl dX2_moversHand_2 ?_
  refine jr_callV (n := 1) (C := RX2) (As := [.int vmov]) (rest := []) S (c_X2_archivist a0 aR aF aG cI vrow vdrawn vtr vled vmov vw1 vw2 veo veb vh1 vt1 vp1 vk1 vg1 vh2 vt2 vp2 vk2 vg2 vmov) gX2_moversHand_X2_archivist rfl (by decide +kernel) rfl ⟨⟨rfl, rfl⟩, ⟨Nat.le_of_ble_eq_true rfl, Nat.le_of_ble_eq_true rfl⟩, Nat.le_of_ble_eq_true rfl, Nat.le_of_ble_eq_true rfl⟩ hP hK hN [0, 1, 2, 3] [0] rfl rfl 0 2 rfl rfl rfl (lv_nil hl) rfl (Nat.le_of_ble_eq_true rfl) dX2_moversHand_5 ?_
  refine jr_ite (c0 := vmov = 0) (a := aF) (b := aG) rfl (fun c_1 => ?_) (fun c_1 => ?_)
  · skip
    refine va_get (D := D) (ci := 0) (v := .long vh1) (C := RX0) (T := TX0) (N := 5) hx hb hts inX2_moversHand_X0 hown hK hP 1 rfl rfl 0 (by decide) (hts (.fieldLink RX2 91 "ArchivistTricks$Archivist" "hand" "J") (by decide +kernel)) (fun _ h9 => h9) rfl dX2_moversHand_8 ?_
    exact jr_lret hx hb hr hlocks dX2_moversHand_11 (by simp only [j_X2_moversHand, if_pos c_1])
  · skip
    refine va_get (D := D) (ci := 0) (v := .long vh2) (C := RX0) (T := TX0) (N := 5) hx hb hts inX2_moversHand_X0 hown hK hP 2 rfl rfl 0 (by decide) (hts (.fieldLink RX2 91 "ArchivistTricks$Archivist" "hand" "J") (by decide +kernel)) (fun _ h9 => h9) rfl dX2_moversHand_8 ?_
    exact jr_lret hx hb hr hlocks dX2_moversHand_11 (by simp only [j_X2_moversHand, if_neg c_1])

abbrev rX2_takerBy : Room := { frames := 2, cells := 0, slots := 0, locals := 42 }
def j_X2_takerBy (vtr : Int32) (vled : Int32) (vmov : Int32) (x0 : Int32) : Int32 := (if j_X2_beats x0 vled vtr = 0 then 1 - vmov else vmov)
theorem inX2_takerBy_X2 : ∀ w ∈ u_ws RX2 TX2 11, w ∈ wsX2_takerBy := by decide +kernel
set_option maxRecDepth 100000 in
set_option maxHeartbeats 4000000 in
theorem c_X2_takerBy {l : Launch} {D : va_G} (a0 : Nat) (aR : Nat) (aF : Nat) (aG : Nat) (cI : ClassId) (vrow : Nat → Int32) (vdrawn : Int32) (vtr : Int32) (vled : Int32) (vmov : Int32) (vw1 : Int32) (vw2 : Int32) (veo : Option Nat) (veb : Int32) (vh1 : Int64) (vt1 : Int64) (vp1 : Int32) (vk1 : Int32) (vg1 : Int32) (vh2 : Int64) (vt2 : Int64) (vp2 : Int32) (vk2 : Int32) (vg2 : Int32) (x0 : Int32) : jR l yX2_takerBy wsX2_takerBy rX2_takerBy D [.ref a0, .int x0] (jC a0 aR aF aG cI vrow vdrawn vtr vled vmov vw1 vw2 veo veb vh1 vt1 vp1 vk1 vg1 vh2 vt2 vp2 vk2 vg2) [(cI, .int)] (.int (j_X2_takerBy vtr vled vmov x0)) := by
  refine jR_of (cc := cX2_takerBy) (maxL := 2) (ret := (some .int)) (by decide) rfl (Nat.le_of_ble_eq_true rfl) ?_
  intro p e s m below meth c ls S hr hlocks hP hK hN hl
  obtain ⟨hx, hb, hml, hown, hts⟩ := id S
  have hl : lv_has ls 2 [(0, .ref a0), (1, .int x0)] := hl
  refine lv_iload_n hx hb dX2_takerBy_0 rfl (lv_at hl 1 rfl) ?_
  refine lv_aload_n hx hb dX2_takerBy_1 rfl (lv_at hl 0 rfl) ?_
  refine va_get (D := D) (ci := 2) (v := .int vled) (C := RX2) (T := TX2) (N := 11) hx hb hts inX2_takerBy_X2 hown hK hP 0 rfl rfl 5 (by decide) (hts (.fieldLink RX2 30 "ArchivistTricks" "ledCard" "I") (by decide +kernel)) (fun _ h9 => h9) rfl dX2_takerBy_2 ?_
  refine lv_aload_n hx hb dX2_takerBy_5 rfl (lv_at hl 0 rfl) ?_
  refine va_get (D := D) (ci := 2) (v := .int vtr) (C := RX2) (T := TX2) (N := 11) hx hb hts inX2_takerBy_X2 hown hK hP 0 rfl rfl 4 (by decide) (hts (.fieldLink RX2 27 "ArchivistTricks" "trumpProvenance" "I") (by decide +kernel)) (fun _ h9 => h9) rfl dX2_takerBy_6 ?_
  refine jr_callS (n := 3) (As := [.int x0, .int vled, .int vtr]) (rest := []) S (c_X2_beats x0 vled vtr) gX2_takerBy_X2_beats rfl (by decide +kernel) rfl ⟨⟨rfl, rfl⟩, ⟨Nat.le_of_ble_eq_true rfl, Nat.le_of_ble_eq_true rfl⟩, Nat.le_of_ble_eq_true rfl, Nat.le_of_ble_eq_true rfl⟩ hP hK hN [] [] rfl rfl (lv_nil hl) rfl (Nat.le_of_ble_eq_true rfl) dX2_takerBy_9 ?_
  refine lv_if_eq (tgt := 22) hx hb dX2_takerBy_12 (by decide) (fun c_1 => ?_) (fun c_1 => ?_)
  · skip
    refine lv_iconst (v := 1) hx hb dX2_takerBy_22 (by decide) ?_
    refine lv_aload_n hx hb dX2_takerBy_23 rfl (lv_at hl 0 rfl) ?_
    refine va_get (D := D) (ci := 2) (v := .int vmov) (C := RX2) (T := TX2) (N := 11) hx hb hts inX2_takerBy_X2 hown hK hP 0 rfl rfl 6 (by decide) (hts (.fieldLink RX2 33 "ArchivistTricks" "mover" "I") (by decide +kernel)) (fun _ h9 => h9) rfl dX2_takerBy_24 ?_
    refine lv_isub hx hb dX2_takerBy_27 ?_
    exact jr_iret hx hb hr hlocks dX2_takerBy_28 (by simp only [j_X2_takerBy, if_pos c_1])
  · skip
    refine lv_aload_n hx hb dX2_takerBy_15 rfl (lv_at hl 0 rfl) ?_
    refine va_get (D := D) (ci := 2) (v := .int vmov) (C := RX2) (T := TX2) (N := 11) hx hb hts inX2_takerBy_X2 hown hK hP 0 rfl rfl 6 (by decide) (hts (.fieldLink RX2 33 "ArchivistTricks" "mover" "I") (by decide +kernel)) (fun _ h9 => h9) rfl dX2_takerBy_16 ?_
    refine lv_goto (tgt := 28) hx hb dX2_takerBy_19 (by decide) ?_
    exact jr_iret hx hb hr hlocks dX2_takerBy_28 (by simp only [j_X2_takerBy, if_neg c_1])

abbrev rX2_reasonAgainst : Room := { frames := 2, cells := 0, slots := 0, locals := 50 }
def j_X2_reasonAgainst (vdrawn : Int32) (vtr : Int32) (vled : Int32) (vmov : Int32) (vh1 : Int64) (vh2 : Int64) (x0 : Int32) : Int32 := (if vmov = (-1) then 1 else (if j_X2_has (j_X2_moversHand vmov vh1 vh2) x0 = 0 then 2 else (if vled = (-1) then j_X2_reasonAgainstLeading (j_X2_moversHand vmov vh1 vh2) x0 else (if 42 ≤ vdrawn then j_X2_reasonAgainstReplying (j_X2_moversHand vmov vh1 vh2) x0 vled vtr else 0))))
theorem inX2_reasonAgainst_X2 : ∀ w ∈ u_ws RX2 TX2 11, w ∈ wsX2_reasonAgainst := by decide +kernel
set_option maxRecDepth 100000 in
set_option maxHeartbeats 4000000 in
theorem c_X2_reasonAgainst {l : Launch} {D : va_G} (a0 : Nat) (aR : Nat) (aF : Nat) (aG : Nat) (cI : ClassId) (vrow : Nat → Int32) (vdrawn : Int32) (vtr : Int32) (vled : Int32) (vmov : Int32) (vw1 : Int32) (vw2 : Int32) (veo : Option Nat) (veb : Int32) (vh1 : Int64) (vt1 : Int64) (vp1 : Int32) (vk1 : Int32) (vg1 : Int32) (vh2 : Int64) (vt2 : Int64) (vp2 : Int32) (vk2 : Int32) (vg2 : Int32) (x0 : Int32) : jR l yX2_reasonAgainst wsX2_reasonAgainst rX2_reasonAgainst D [.ref a0, .int x0] (jC a0 aR aF aG cI vrow vdrawn vtr vled vmov vw1 vw2 veo veb vh1 vt1 vp1 vk1 vg1 vh2 vt2 vp2 vk2 vg2) [(cI, .int)] (.int (j_X2_reasonAgainst vdrawn vtr vled vmov vh1 vh2 x0)) := by
  refine jR_of (cc := cX2_reasonAgainst) (maxL := 4) (ret := (some .int)) (by decide) rfl (Nat.le_of_ble_eq_true rfl) ?_
  intro p e s m below meth c ls S hr hlocks hP hK hN hl
  obtain ⟨hx, hb, hml, hown, hts⟩ := id S
  have hl : lv_has ls 4 [(0, .ref a0), (1, .int x0)] := hl
  refine lv_aload_n hx hb dX2_reasonAgainst_0 rfl (lv_at hl 0 rfl) ?_
  refine va_get (D := D) (ci := 2) (v := .int vmov) (C := RX2) (T := TX2) (N := 11) hx hb hts inX2_reasonAgainst_X2 hown hK hP 0 rfl rfl 6 (by decide) (hts (.fieldLink RX2 33 "ArchivistTricks" "mover" "I") (by decide +kernel)) (fun _ h9 => h9) rfl dX2_reasonAgainst_1 ?_
  refine lv_iconst (v := (-1)) hx hb dX2_reasonAgainst_4 (by decide) ?_
  refine lv_icmp_ne (tgt := 10) hx hb dX2_reasonAgainst_5 (by decide) (fun c_1 => ?_) (fun c_1 => ?_)
  · skip
    refine lv_aload_n hx hb dX2_reasonAgainst_10 rfl (lv_at hl 0 rfl) ?_
    refine jr_callV (n := 0) (C := RX2) (As := []) (rest := []) S (c_X2_moversHand a0 aR aF aG cI vrow vdrawn vtr vled vmov vw1 vw2 veo veb vh1 vt1 vp1 vk1 vg1 vh2 vt2 vp2 vk2 vg2) gX2_reasonAgainst_X2_moversHand rfl (by decide +kernel) rfl ⟨⟨rfl, rfl⟩, ⟨Nat.le_of_ble_eq_true rfl, Nat.le_of_ble_eq_true rfl⟩, Nat.le_of_ble_eq_true rfl, Nat.le_of_ble_eq_true rfl⟩ hP hK hN [0, 1, 2, 3] [0] rfl rfl 0 2 rfl rfl rfl (lv_nil hl) rfl (Nat.le_of_ble_eq_true rfl) dX2_reasonAgainst_11 ?_
    refine lv_lstore_n (lv' := [(2, .long (j_X2_moversHand vmov vh1 vh2)), (0, .ref a0), (1, .int x0)]) hx hb dX2_reasonAgainst_14 rfl hl (by decide) rfl (fun ls hl => ?_)
    refine lv_lload_n hx hb dX2_reasonAgainst_15 rfl (lv_at hl 0 rfl) ?_
    refine lv_iload_n hx hb dX2_reasonAgainst_16 rfl (lv_at hl 2 rfl) ?_
    refine jr_callS (n := 2) (As := [.long (j_X2_moversHand vmov vh1 vh2), .int x0]) (rest := []) S (c_X2_has (j_X2_moversHand vmov vh1 vh2) x0) gX2_reasonAgainst_X2_has rfl (by decide +kernel) rfl ⟨⟨rfl, rfl⟩, ⟨Nat.le_of_ble_eq_true rfl, Nat.le_of_ble_eq_true rfl⟩, Nat.le_of_ble_eq_true rfl, Nat.le_of_ble_eq_true rfl⟩ hP hK hN [] [] rfl rfl (lv_nil hl) rfl (Nat.le_of_ble_eq_true rfl) dX2_reasonAgainst_17 ?_
    refine lv_if_ne (tgt := 25) hx hb dX2_reasonAgainst_20 (by decide) (fun c_2 => ?_) (fun c_2 => ?_)
    · skip
      refine lv_aload_n hx hb dX2_reasonAgainst_25 rfl (lv_at hl 1 rfl) ?_
      refine va_get (D := D) (ci := 2) (v := .int vled) (C := RX2) (T := TX2) (N := 11) hx hb hts inX2_reasonAgainst_X2 hown hK hP 0 rfl rfl 5 (by decide) (hts (.fieldLink RX2 30 "ArchivistTricks" "ledCard" "I") (by decide +kernel)) (fun _ h9 => h9) rfl dX2_reasonAgainst_26 ?_
      refine lv_iconst (v := (-1)) hx hb dX2_reasonAgainst_29 (by decide) ?_
      refine lv_icmp_ne (tgt := 39) hx hb dX2_reasonAgainst_30 (by decide) (fun c_3 => ?_) (fun c_3 => ?_)
      · skip
        refine lv_aload_n hx hb dX2_reasonAgainst_39 rfl (lv_at hl 1 rfl) ?_
        refine va_get (D := D) (ci := 2) (v := .int vdrawn) (C := RX2) (T := TX2) (N := 11) hx hb hts inX2_reasonAgainst_X2 hown hK hP 0 rfl rfl 3 (by decide) (hts (.fieldLink RX2 23 "ArchivistTricks" "drawn" "I") (by decide +kernel)) (fun _ h9 => h9) rfl dX2_reasonAgainst_40 ?_
        refine lv_bipush (v := 42) hx hb dX2_reasonAgainst_43 (by decide) ?_
        refine lv_icmp_ge (tgt := 52) hx hb dX2_reasonAgainst_45 (by decide) (fun c_4 => ?_) (fun c_4 => ?_)
        · skip
          refine lv_lload_n hx hb dX2_reasonAgainst_52 rfl (lv_at hl 0 rfl) ?_
          refine lv_iload_n hx hb dX2_reasonAgainst_53 rfl (lv_at hl 2 rfl) ?_
          refine lv_aload_n hx hb dX2_reasonAgainst_54 rfl (lv_at hl 1 rfl) ?_
          refine va_get (D := D) (ci := 2) (v := .int vled) (C := RX2) (T := TX2) (N := 11) hx hb hts inX2_reasonAgainst_X2 hown hK hP 0 rfl rfl 5 (by decide) (hts (.fieldLink RX2 30 "ArchivistTricks" "ledCard" "I") (by decide +kernel)) (fun _ h9 => h9) rfl dX2_reasonAgainst_55 ?_
          refine lv_aload_n hx hb dX2_reasonAgainst_58 rfl (lv_at hl 1 rfl) ?_
          refine va_get (D := D) (ci := 2) (v := .int vtr) (C := RX2) (T := TX2) (N := 11) hx hb hts inX2_reasonAgainst_X2 hown hK hP 0 rfl rfl 4 (by decide) (hts (.fieldLink RX2 27 "ArchivistTricks" "trumpProvenance" "I") (by decide +kernel)) (fun _ h9 => h9) rfl dX2_reasonAgainst_59 ?_
          refine jr_callS (n := 4) (As := [.long (j_X2_moversHand vmov vh1 vh2), .int x0, .int vled, .int vtr]) (rest := []) S (c_X2_reasonAgainstReplying (j_X2_moversHand vmov vh1 vh2) x0 vled vtr) gX2_reasonAgainst_X2_reasonAgainstReplying rfl (by decide +kernel) rfl ⟨⟨rfl, rfl⟩, ⟨Nat.le_of_ble_eq_true rfl, Nat.le_of_ble_eq_true rfl⟩, Nat.le_of_ble_eq_true rfl, Nat.le_of_ble_eq_true rfl⟩ hP hK hN [] [] rfl rfl (lv_nil hl) rfl (Nat.le_of_ble_eq_true rfl) dX2_reasonAgainst_62 ?_
          exact jr_iret hx hb hr hlocks dX2_reasonAgainst_65 (by simp only [j_X2_reasonAgainst, if_neg c_1, if_neg c_2, if_neg c_3, if_pos c_4])
        · skip
          refine lv_iconst (v := 0) hx hb dX2_reasonAgainst_48 (by decide) ?_
          refine lv_goto (tgt := 65) hx hb dX2_reasonAgainst_49 (by decide) ?_
          exact jr_iret hx hb hr hlocks dX2_reasonAgainst_65 (by simp only [j_X2_reasonAgainst, if_neg c_1, if_neg c_2, if_neg c_3, if_neg c_4])
      · skip
        refine lv_lload_n hx hb dX2_reasonAgainst_33 rfl (lv_at hl 0 rfl) ?_
        refine lv_iload_n hx hb dX2_reasonAgainst_34 rfl (lv_at hl 2 rfl) ?_
        refine jr_callS (n := 2) (As := [.long (j_X2_moversHand vmov vh1 vh2), .int x0]) (rest := []) S (c_X2_reasonAgainstLeading (j_X2_moversHand vmov vh1 vh2) x0) gX2_reasonAgainst_X2_reasonAgainstLeading rfl (by decide +kernel) rfl ⟨⟨rfl, rfl⟩, ⟨Nat.le_of_ble_eq_true rfl, Nat.le_of_ble_eq_true rfl⟩, Nat.le_of_ble_eq_true rfl, Nat.le_of_ble_eq_true rfl⟩ hP hK hN [] [] rfl rfl (lv_nil hl) rfl (Nat.le_of_ble_eq_true rfl) dX2_reasonAgainst_35 ?_
        exact jr_iret hx hb hr hlocks dX2_reasonAgainst_38 (by simp only [j_X2_reasonAgainst, if_neg c_1, if_neg c_2, if_pos c_3])
    · skip
      refine lv_iconst (v := 2) hx hb dX2_reasonAgainst_23 (by decide) ?_
      exact jr_iret hx hb hr hlocks dX2_reasonAgainst_24 (by simp only [j_X2_reasonAgainst, if_neg c_1, if_pos c_2])
  · skip
    refine lv_iconst (v := 1) hx hb dX2_reasonAgainst_8 (by decide) ?_
    exact jr_iret hx hb hr hlocks dX2_reasonAgainst_9 (by simp only [j_X2_reasonAgainst, if_pos c_1])

abbrev rX2_isPlaying : Room := { frames := 0, cells := 0, slots := 0, locals := 0 }
def j_X2_isPlaying (vmov : Int32) : Int32 := (if vmov = (-1) then 0 else 1)
theorem inX2_isPlaying_X2 : ∀ w ∈ u_ws RX2 TX2 11, w ∈ wsX2_isPlaying := by decide +kernel
set_option maxRecDepth 100000 in
set_option maxHeartbeats 4000000 in
theorem c_X2_isPlaying {l : Launch} {D : va_G} (a0 : Nat) (aR : Nat) (aF : Nat) (aG : Nat) (cI : ClassId) (vrow : Nat → Int32) (vdrawn : Int32) (vtr : Int32) (vled : Int32) (vmov : Int32) (vw1 : Int32) (vw2 : Int32) (veo : Option Nat) (veb : Int32) (vh1 : Int64) (vt1 : Int64) (vp1 : Int32) (vk1 : Int32) (vg1 : Int32) (vh2 : Int64) (vt2 : Int64) (vp2 : Int32) (vk2 : Int32) (vg2 : Int32) : jR l yX2_isPlaying wsX2_isPlaying rX2_isPlaying D [.ref a0] (jC a0 aR aF aG cI vrow vdrawn vtr vled vmov vw1 vw2 veo veb vh1 vt1 vp1 vk1 vg1 vh2 vt2 vp2 vk2 vg2) [(cI, .int)] (.int (j_X2_isPlaying vmov)) := by
  refine jR_of (cc := cX2_isPlaying) (maxL := 1) (ret := (some .boolean)) (by decide) rfl (Nat.le_of_ble_eq_true rfl) ?_
  intro p e s m below meth c ls S hr hlocks hP hK hN hl
  obtain ⟨hx, hb, hml, hown, hts⟩ := id S
  have hl : lv_has ls 1 [(0, .ref a0)] := hl
  refine lv_aload_n hx hb dX2_isPlaying_0 rfl (lv_at hl 0 rfl) ?_
  refine va_get (D := D) (ci := 2) (v := .int vmov) (C := RX2) (T := TX2) (N := 11) hx hb hts inX2_isPlaying_X2 hown hK hP 0 rfl rfl 6 (by decide) (hts (.fieldLink RX2 33 "ArchivistTricks" "mover" "I") (by decide +kernel)) (fun _ h9 => h9) rfl dX2_isPlaying_1 ?_
  refine lv_iconst (v := (-1)) hx hb dX2_isPlaying_4 (by decide) ?_
  refine lv_icmp_eq (tgt := 12) hx hb dX2_isPlaying_5 (by decide) (fun c_1 => ?_) (fun c_1 => ?_)
  · skip
    refine lv_iconst (v := 0) hx hb dX2_isPlaying_12 (by decide) ?_
    exact jr_zret hx hb hr hlocks dX2_isPlaying_13 rfl (by simp only [j_X2_isPlaying, if_pos c_1])
  · skip
    refine lv_iconst (v := 1) hx hb dX2_isPlaying_8 (by decide) ?_
    refine lv_goto (tgt := 13) hx hb dX2_isPlaying_9 (by decide) ?_
    exact jr_zret hx hb hr hlocks dX2_isPlaying_13 rfl (by simp only [j_X2_isPlaying, if_neg c_1])

abbrev rX2_turn : Room := { frames := 0, cells := 0, slots := 0, locals := 0 }
def j_X2_turn (vmov : Int32) : Int32 := vmov
theorem inX2_turn_X2 : ∀ w ∈ u_ws RX2 TX2 11, w ∈ wsX2_turn := by decide +kernel
set_option maxRecDepth 100000 in
set_option maxHeartbeats 4000000 in
theorem c_X2_turn {l : Launch} {D : va_G} (a0 : Nat) (aR : Nat) (aF : Nat) (aG : Nat) (cI : ClassId) (vrow : Nat → Int32) (vdrawn : Int32) (vtr : Int32) (vled : Int32) (vmov : Int32) (vw1 : Int32) (vw2 : Int32) (veo : Option Nat) (veb : Int32) (vh1 : Int64) (vt1 : Int64) (vp1 : Int32) (vk1 : Int32) (vg1 : Int32) (vh2 : Int64) (vt2 : Int64) (vp2 : Int32) (vk2 : Int32) (vg2 : Int32) : jR l yX2_turn wsX2_turn rX2_turn D [.ref a0] (jC a0 aR aF aG cI vrow vdrawn vtr vled vmov vw1 vw2 veo veb vh1 vt1 vp1 vk1 vg1 vh2 vt2 vp2 vk2 vg2) [(cI, .int)] (.int (j_X2_turn vmov)) := by
  refine jR_of (cc := cX2_turn) (maxL := 1) (ret := (some .int)) (by decide) rfl (Nat.le_of_ble_eq_true rfl) ?_
  intro p e s m below meth c ls S hr hlocks hP hK hN hl
  obtain ⟨hx, hb, hml, hown, hts⟩ := id S
  have hl : lv_has ls 1 [(0, .ref a0)] := hl
  refine lv_aload_n hx hb dX2_turn_0 rfl (lv_at hl 0 rfl) ?_
  refine va_get (D := D) (ci := 2) (v := .int vmov) (C := RX2) (T := TX2) (N := 11) hx hb hts inX2_turn_X2 hown hK hP 0 rfl rfl 6 (by decide) (hts (.fieldLink RX2 33 "ArchivistTricks" "mover" "I") (by decide +kernel)) (fun _ h9 => h9) rfl dX2_turn_1 ?_
  exact jr_iret hx hb hr hlocks dX2_turn_4 (by simp only [j_X2_turn])

abbrev rX2_led : Room := { frames := 0, cells := 0, slots := 0, locals := 0 }
def j_X2_led (vled : Int32) : Int32 := vled
theorem inX2_led_X2 : ∀ w ∈ u_ws RX2 TX2 11, w ∈ wsX2_led := by decide +kernel
set_option maxRecDepth 100000 in
set_option maxHeartbeats 4000000 in
theorem c_X2_led {l : Launch} {D : va_G} (a0 : Nat) (aR : Nat) (aF : Nat) (aG : Nat) (cI : ClassId) (vrow : Nat → Int32) (vdrawn : Int32) (vtr : Int32) (vled : Int32) (vmov : Int32) (vw1 : Int32) (vw2 : Int32) (veo : Option Nat) (veb : Int32) (vh1 : Int64) (vt1 : Int64) (vp1 : Int32) (vk1 : Int32) (vg1 : Int32) (vh2 : Int64) (vt2 : Int64) (vp2 : Int32) (vk2 : Int32) (vg2 : Int32) : jR l yX2_led wsX2_led rX2_led D [.ref a0] (jC a0 aR aF aG cI vrow vdrawn vtr vled vmov vw1 vw2 veo veb vh1 vt1 vp1 vk1 vg1 vh2 vt2 vp2 vk2 vg2) [(cI, .int)] (.int (j_X2_led vled)) := by
  refine jR_of (cc := cX2_led) (maxL := 1) (ret := (some .int)) (by decide) rfl (Nat.le_of_ble_eq_true rfl) ?_
  intro p e s m below meth c ls S hr hlocks hP hK hN hl
  obtain ⟨hx, hb, hml, hown, hts⟩ := id S
  have hl : lv_has ls 1 [(0, .ref a0)] := hl
  refine lv_aload_n hx hb dX2_led_0 rfl (lv_at hl 0 rfl) ?_
  refine va_get (D := D) (ci := 2) (v := .int vled) (C := RX2) (T := TX2) (N := 11) hx hb hts inX2_led_X2 hown hK hP 0 rfl rfl 5 (by decide) (hts (.fieldLink RX2 30 "ArchivistTricks" "ledCard" "I") (by decide +kernel)) (fun _ h9 => h9) rfl dX2_led_1 ?_
  exact jr_iret hx hb hr hlocks dX2_led_4 (by simp only [j_X2_led])

abbrev rX2_trumps : Room := { frames := 0, cells := 0, slots := 0, locals := 0 }
def j_X2_trumps (vtr : Int32) : Int32 := vtr
theorem inX2_trumps_X2 : ∀ w ∈ u_ws RX2 TX2 11, w ∈ wsX2_trumps := by decide +kernel
set_option maxRecDepth 100000 in
set_option maxHeartbeats 4000000 in
theorem c_X2_trumps {l : Launch} {D : va_G} (a0 : Nat) (aR : Nat) (aF : Nat) (aG : Nat) (cI : ClassId) (vrow : Nat → Int32) (vdrawn : Int32) (vtr : Int32) (vled : Int32) (vmov : Int32) (vw1 : Int32) (vw2 : Int32) (veo : Option Nat) (veb : Int32) (vh1 : Int64) (vt1 : Int64) (vp1 : Int32) (vk1 : Int32) (vg1 : Int32) (vh2 : Int64) (vt2 : Int64) (vp2 : Int32) (vk2 : Int32) (vg2 : Int32) : jR l yX2_trumps wsX2_trumps rX2_trumps D [.ref a0] (jC a0 aR aF aG cI vrow vdrawn vtr vled vmov vw1 vw2 veo veb vh1 vt1 vp1 vk1 vg1 vh2 vt2 vp2 vk2 vg2) [(cI, .int)] (.int (j_X2_trumps vtr)) := by
  refine jR_of (cc := cX2_trumps) (maxL := 1) (ret := (some .int)) (by decide) rfl (Nat.le_of_ble_eq_true rfl) ?_
  intro p e s m below meth c ls S hr hlocks hP hK hN hl
  obtain ⟨hx, hb, hml, hown, hts⟩ := id S
  have hl : lv_has ls 1 [(0, .ref a0)] := hl
  refine lv_aload_n hx hb dX2_trumps_0 rfl (lv_at hl 0 rfl) ?_
  refine va_get (D := D) (ci := 2) (v := .int vtr) (C := RX2) (T := TX2) (N := 11) hx hb hts inX2_trumps_X2 hown hK hP 0 rfl rfl 4 (by decide) (hts (.fieldLink RX2 27 "ArchivistTricks" "trumpProvenance" "I") (by decide +kernel)) (fun _ h9 => h9) rfl dX2_trumps_1 ?_
  exact jr_iret hx hb hr hlocks dX2_trumps_4 (by simp only [j_X2_trumps])

abbrev rX2_pile : Room := { frames := 0, cells := 0, slots := 0, locals := 0 }
def j_X2_pile (vdrawn : Int32) : Int32 := 42 - vdrawn
theorem inX2_pile_X2 : ∀ w ∈ u_ws RX2 TX2 11, w ∈ wsX2_pile := by decide +kernel
set_option maxRecDepth 100000 in
set_option maxHeartbeats 4000000 in
theorem c_X2_pile {l : Launch} {D : va_G} (a0 : Nat) (aR : Nat) (aF : Nat) (aG : Nat) (cI : ClassId) (vrow : Nat → Int32) (vdrawn : Int32) (vtr : Int32) (vled : Int32) (vmov : Int32) (vw1 : Int32) (vw2 : Int32) (veo : Option Nat) (veb : Int32) (vh1 : Int64) (vt1 : Int64) (vp1 : Int32) (vk1 : Int32) (vg1 : Int32) (vh2 : Int64) (vt2 : Int64) (vp2 : Int32) (vk2 : Int32) (vg2 : Int32) : jR l yX2_pile wsX2_pile rX2_pile D [.ref a0] (jC a0 aR aF aG cI vrow vdrawn vtr vled vmov vw1 vw2 veo veb vh1 vt1 vp1 vk1 vg1 vh2 vt2 vp2 vk2 vg2) [(cI, .int)] (.int (j_X2_pile vdrawn)) := by
  refine jR_of (cc := cX2_pile) (maxL := 1) (ret := (some .int)) (by decide) rfl (Nat.le_of_ble_eq_true rfl) ?_
  intro p e s m below meth c ls S hr hlocks hP hK hN hl
  obtain ⟨hx, hb, hml, hown, hts⟩ := id S
  have hl : lv_has ls 1 [(0, .ref a0)] := hl
  refine lv_bipush (v := 42) hx hb dX2_pile_0 (by decide) ?_
  refine lv_aload_n hx hb dX2_pile_2 rfl (lv_at hl 0 rfl) ?_
  refine va_get (D := D) (ci := 2) (v := .int vdrawn) (C := RX2) (T := TX2) (N := 11) hx hb hts inX2_pile_X2 hown hK hP 0 rfl rfl 3 (by decide) (hts (.fieldLink RX2 23 "ArchivistTricks" "drawn" "I") (by decide +kernel)) (fun _ h9 => h9) rfl dX2_pile_3 ?_
  refine lv_isub hx hb dX2_pile_6 ?_
  exact jr_iret hx hb hr hlocks dX2_pile_7 (by simp only [j_X2_pile])

abbrev rX2_wonByFirst : Room := { frames := 0, cells := 0, slots := 0, locals := 0 }
def j_X2_wonByFirst (vw1 : Int32) : Int32 := vw1
theorem inX2_wonByFirst_X2 : ∀ w ∈ u_ws RX2 TX2 11, w ∈ wsX2_wonByFirst := by decide +kernel
set_option maxRecDepth 100000 in
set_option maxHeartbeats 4000000 in
theorem c_X2_wonByFirst {l : Launch} {D : va_G} (a0 : Nat) (aR : Nat) (aF : Nat) (aG : Nat) (cI : ClassId) (vrow : Nat → Int32) (vdrawn : Int32) (vtr : Int32) (vled : Int32) (vmov : Int32) (vw1 : Int32) (vw2 : Int32) (veo : Option Nat) (veb : Int32) (vh1 : Int64) (vt1 : Int64) (vp1 : Int32) (vk1 : Int32) (vg1 : Int32) (vh2 : Int64) (vt2 : Int64) (vp2 : Int32) (vk2 : Int32) (vg2 : Int32) : jR l yX2_wonByFirst wsX2_wonByFirst rX2_wonByFirst D [.ref a0] (jC a0 aR aF aG cI vrow vdrawn vtr vled vmov vw1 vw2 veo veb vh1 vt1 vp1 vk1 vg1 vh2 vt2 vp2 vk2 vg2) [(cI, .int)] (.int (j_X2_wonByFirst vw1)) := by
  refine jR_of (cc := cX2_wonByFirst) (maxL := 1) (ret := (some .int)) (by decide) rfl (Nat.le_of_ble_eq_true rfl) ?_
  intro p e s m below meth c ls S hr hlocks hP hK hN hl
  obtain ⟨hx, hb, hml, hown, hts⟩ := id S
  have hl : lv_has ls 1 [(0, .ref a0)] := hl
  refine lv_aload_n hx hb dX2_wonByFirst_0 rfl (lv_at hl 0 rfl) ?_
  refine va_get (D := D) (ci := 2) (v := .int vw1) (C := RX2) (T := TX2) (N := 11) hx hb hts inX2_wonByFirst_X2 hown hK hP 0 rfl rfl 7 (by decide) (hts (.fieldLink RX2 36 "ArchivistTricks" "firstWins" "I") (by decide +kernel)) (fun _ h9 => h9) rfl dX2_wonByFirst_1 ?_
  exact jr_iret hx hb hr hlocks dX2_wonByFirst_4 (by simp only [j_X2_wonByFirst])

abbrev rX2_wonBySecond : Room := { frames := 0, cells := 0, slots := 0, locals := 0 }
def j_X2_wonBySecond (vw2 : Int32) : Int32 := vw2
theorem inX2_wonBySecond_X2 : ∀ w ∈ u_ws RX2 TX2 11, w ∈ wsX2_wonBySecond := by decide +kernel
set_option maxRecDepth 100000 in
set_option maxHeartbeats 4000000 in
theorem c_X2_wonBySecond {l : Launch} {D : va_G} (a0 : Nat) (aR : Nat) (aF : Nat) (aG : Nat) (cI : ClassId) (vrow : Nat → Int32) (vdrawn : Int32) (vtr : Int32) (vled : Int32) (vmov : Int32) (vw1 : Int32) (vw2 : Int32) (veo : Option Nat) (veb : Int32) (vh1 : Int64) (vt1 : Int64) (vp1 : Int32) (vk1 : Int32) (vg1 : Int32) (vh2 : Int64) (vt2 : Int64) (vp2 : Int32) (vk2 : Int32) (vg2 : Int32) : jR l yX2_wonBySecond wsX2_wonBySecond rX2_wonBySecond D [.ref a0] (jC a0 aR aF aG cI vrow vdrawn vtr vled vmov vw1 vw2 veo veb vh1 vt1 vp1 vk1 vg1 vh2 vt2 vp2 vk2 vg2) [(cI, .int)] (.int (j_X2_wonBySecond vw2)) := by
  refine jR_of (cc := cX2_wonBySecond) (maxL := 1) (ret := (some .int)) (by decide) rfl (Nat.le_of_ble_eq_true rfl) ?_
  intro p e s m below meth c ls S hr hlocks hP hK hN hl
  obtain ⟨hx, hb, hml, hown, hts⟩ := id S
  have hl : lv_has ls 1 [(0, .ref a0)] := hl
  refine lv_aload_n hx hb dX2_wonBySecond_0 rfl (lv_at hl 0 rfl) ?_
  refine va_get (D := D) (ci := 2) (v := .int vw2) (C := RX2) (T := TX2) (N := 11) hx hb hts inX2_wonBySecond_X2 hown hK hP 0 rfl rfl 8 (by decide) (hts (.fieldLink RX2 39 "ArchivistTricks" "secondWins" "I") (by decide +kernel)) (fun _ h9 => h9) rfl dX2_wonBySecond_1 ?_
  exact jr_iret hx hb hr hlocks dX2_wonBySecond_4 (by simp only [j_X2_wonBySecond])

abbrev rX2_choices : Room := { frames := 3, cells := 0, slots := 0, locals := 73 }
def j_X2_choices_4 (vdrawn : Int32) (vtr : Int32) (vled : Int32) (vmov : Int32) (vh1 : Int64) (vh2 : Int64) : Nat → Nat → Int32 → Int32
  | 0, i, y1 => y1
  | n + 1, i, y1 => (if j_X2_reasonAgainst vdrawn vtr vled vmov vh1 vh2 (nI i) = 0 then j_X2_choices_4 vdrawn vtr vled vmov vh1 vh2 n (i + 1) (y1 + 1) else j_X2_choices_4 vdrawn vtr vled vmov vh1 vh2 n (i + 1) y1)
def j_X2_choices (vdrawn : Int32) (vtr : Int32) (vled : Int32) (vmov : Int32) (vh1 : Int64) (vh2 : Int64) : Int32 := j_X2_choices_4 vdrawn vtr vled vmov vh1 vh2 42 0 0
set_option maxRecDepth 100000 in
set_option maxHeartbeats 4000000 in
theorem c_X2_choices {l : Launch} {D : va_G} (a0 : Nat) (aR : Nat) (aF : Nat) (aG : Nat) (cI : ClassId) (vrow : Nat → Int32) (vdrawn : Int32) (vtr : Int32) (vled : Int32) (vmov : Int32) (vw1 : Int32) (vw2 : Int32) (veo : Option Nat) (veb : Int32) (vh1 : Int64) (vt1 : Int64) (vp1 : Int32) (vk1 : Int32) (vg1 : Int32) (vh2 : Int64) (vt2 : Int64) (vp2 : Int32) (vk2 : Int32) (vg2 : Int32) : jR l yX2_choices wsX2_choices rX2_choices D [.ref a0] (jC a0 aR aF aG cI vrow vdrawn vtr vled vmov vw1 vw2 veo veb vh1 vt1 vp1 vk1 vg1 vh2 vt2 vp2 vk2 vg2) [(cI, .int)] (.int (j_X2_choices vdrawn vtr vled vmov vh1 vh2)) := by
  refine jR_of (cc := cX2_choices) (maxL := 3) (ret := (some .int)) (by decide) rfl (Nat.le_of_ble_eq_true rfl) ?_
  intro p e s m below meth c ls S hr hlocks hP hK hN hl
  obtain ⟨hx, hb, hml, hown, hts⟩ := id S
  have hl : lv_has ls 3 [(0, .ref a0)] := hl
  have loop4 : ∀ (n i : Nat) (y1 : Int32), i + n = 42 → j_X2_choices_4 vdrawn vtr vled vmov vh1 vh2 n i y1 = (j_X2_choices vdrawn vtr vled vmov vh1 vh2) → ∀ (ls : Array Slot), lv_has ls 3 [(2, .int (nI i)), (1, .int y1), (0, .ref a0)] → W p l e rX2_choices s m ([.ref a0] : List Value).toArray below meth c s.heap [] 0 0 (MQ below (k2_QcV (.int (j_X2_choices vdrawn vtr vled vmov vh1 vh2))) ([.ref a0] : List Value).toArray s 0 0 (fun _ => False)) (F0 m 4 ls []) := by
    intro n
    induction n with
    | zero =>
      intro i y1 hin hv ls hl
      have hge : (42 : Int32) ≤ nI i := by rw [show i = 42 by omega]; decide
      have hgl : ¬ nI i < (42 : Int32) := by rw [show i = 42 by omega]; decide
      refine lv_iload_n hx hb dX2_choices_4 rfl (lv_at hl 0 rfl) ?_
      refine lv_bipush (v := 42) hx hb dX2_choices_5 (by decide) ?_
      refine lv_icmp_ge (tgt := 27) hx hb dX2_choices_7 (by decide) (fun _ => ?_) (fun c_ => absurd hge c_)
      refine lv_iload_n hx hb dX2_choices_27 rfl (lv_at hl 1 rfl) ?_
      exact jr_iret hx hb hr hlocks dX2_choices_28 (by rw [← hv]; simp only [j_X2_choices_4, if_pos hge, if_neg hgl])
    | succ n ih =>
      intro i y1 hin hv ls hl
      have hge : ¬ (42 : Int32) ≤ nI i := nI_ge (a := i) (b := 42) (by omega) (by decide)
      have hgl : nI i < (42 : Int32) := nI_lt (a := i) (b := 42) (by omega) (by decide)
      refine lv_iload_n hx hb dX2_choices_4 rfl (lv_at hl 0 rfl) ?_
      refine lv_bipush (v := 42) hx hb dX2_choices_5 (by decide) ?_
      refine lv_icmp_ge (tgt := 27) hx hb dX2_choices_7 (by decide) (fun c_ => absurd c_ hge) (fun _ => ?_)
      refine lv_aload_n hx hb dX2_choices_10 rfl (lv_at hl 2 rfl) ?_
      refine lv_iload_n hx hb dX2_choices_11 rfl (lv_at hl 0 rfl) ?_
      refine jr_callV (n := 1) (C := RX2) (As := [.int (nI i)]) (rest := []) S (c_X2_reasonAgainst a0 aR aF aG cI vrow vdrawn vtr vled vmov vw1 vw2 veo veb vh1 vt1 vp1 vk1 vg1 vh2 vt2 vp2 vk2 vg2 (nI i)) gX2_choices_X2_reasonAgainst rfl (by decide +kernel) rfl ⟨⟨rfl, rfl⟩, ⟨Nat.le_of_ble_eq_true rfl, Nat.le_of_ble_eq_true rfl⟩, Nat.le_of_ble_eq_true rfl, Nat.le_of_ble_eq_true rfl⟩ hP hK hN [0, 1, 2, 3] [0] rfl rfl 0 2 rfl rfl rfl (lv_nil hl) rfl (Nat.le_of_ble_eq_true rfl) dX2_choices_12 ?_
      refine lv_if_ne (tgt := 21) hx hb dX2_choices_15 (by decide) (fun c_4001 => ?_) (fun c_4001 => ?_)
      · skip
        refine lv_iinc (v := nI (i + 1)) (lv' := [(2, .int (nI (i + 1))), (1, .int y1), (0, .ref a0)]) hx hb dX2_choices_21 hl (k := 0) rfl (nI_1 i) (by decide) rfl (fun ls hl => ?_)
        refine lv_goto (tgt := 4) hx hb dX2_choices_24 (by decide) ?_
        exact ih (i + 1) y1 (by omega) (by rw [← hv]; simp only [j_X2_choices_4, if_neg hge, if_pos hgl, if_neg c_4001]) ls (lv_sub hl [0, 1, 2] rfl)
      · skip
        refine lv_iinc (v := y1 + 1) (lv' := [(1, .int (y1 + 1)), (2, .int (nI i)), (0, .ref a0)]) hx hb dX2_choices_18 hl (k := 1) rfl rfl (by decide) rfl (fun ls hl => ?_)
        refine lv_iinc (v := nI (i + 1)) (lv' := [(2, .int (nI (i + 1))), (1, .int (y1 + 1)), (0, .ref a0)]) hx hb dX2_choices_21 hl (k := 1) rfl (nI_1 i) (by decide) rfl (fun ls hl => ?_)
        refine lv_goto (tgt := 4) hx hb dX2_choices_24 (by decide) ?_
        exact ih (i + 1) (y1 + 1) (by omega) (by rw [← hv]; simp only [j_X2_choices_4, if_neg hge, if_pos hgl, if_pos c_4001]) ls (lv_sub hl [0, 1, 2] rfl)
  refine lv_iconst (v := 0) hx hb dX2_choices_0 (by decide) ?_
  refine lv_istore_n (lv' := [(1, .int 0), (0, .ref a0)]) hx hb dX2_choices_1 rfl hl (by decide) rfl (fun ls hl => ?_)
  refine lv_iconst (v := 0) hx hb dX2_choices_2 (by decide) ?_
  refine lv_istore_n (lv' := [(2, .int 0), (1, .int 0), (0, .ref a0)]) hx hb dX2_choices_3 rfl hl (by decide) rfl (fun ls hl => ?_)
  exact loop4 42 0 0 rfl (by simp only [j_X2_choices]) ls (lv_sub (l' := [(2, .int (nI 0)), (1, .int 0), (0, .ref a0)]) hl [0, 1, 2] rfl)

abbrev rX2_handFrom : Room := { frames := 1, cells := 0, slots := 0, locals := 20 }
def j_X2_handFrom_5 (vrow : Nat → Int32) (x0 : Int32) : Nat → Nat → Int64 → Int64
  | 0, i, y2 => y2
  | n + 1, i, y2 => (if nI i < x0 then j_X2_handFrom_5 vrow x0 n (i + 1) y2 else (if x0 + 6 ≤ nI i then j_X2_handFrom_5 vrow x0 n (i + 1) y2 else j_X2_handFrom_5 vrow x0 n (i + 1) (y2 ||| (j_X2_bit (vrow (nI i).toNatClampNeg)))))
def j_X2_handFrom (vrow : Nat → Int32) (x0 : Int32) : Int64 := j_X2_handFrom_5 vrow x0 42 0 0
theorem inX2_handFrom_X2 : ∀ w ∈ u_ws RX2 TX2 11, w ∈ wsX2_handFrom := by decide +kernel
set_option maxRecDepth 100000 in
set_option maxHeartbeats 4000000 in
theorem c_X2_handFrom {l : Launch} {D : va_G} (a0 : Nat) (aR : Nat) (aF : Nat) (aG : Nat) (cI : ClassId) (vrow : Nat → Int32) (vdrawn : Int32) (vtr : Int32) (vled : Int32) (vmov : Int32) (vw1 : Int32) (vw2 : Int32) (veo : Option Nat) (veb : Int32) (vh1 : Int64) (vt1 : Int64) (vp1 : Int32) (vk1 : Int32) (vg1 : Int32) (vh2 : Int64) (vt2 : Int64) (vp2 : Int32) (vk2 : Int32) (vg2 : Int32) (x0 : Int32) : jR l yX2_handFrom wsX2_handFrom rX2_handFrom D [.ref a0, .int x0] (jC a0 aR aF aG cI vrow vdrawn vtr vled vmov vw1 vw2 veo veb vh1 vt1 vp1 vk1 vg1 vh2 vt2 vp2 vk2 vg2) [(cI, .int)] (.long (j_X2_handFrom vrow x0)) := by
  refine jR_of (cc := cX2_handFrom) (maxL := 5) (ret := (some .long)) (by decide) rfl (Nat.le_of_ble_eq_true rfl) ?_
  intro p e s m below meth c ls S hr hlocks hP hK hN hl
  obtain ⟨hx, hb, hml, hown, hts⟩ := id S
  have hl : lv_has ls 5 [(0, .ref a0), (1, .int x0)] := hl
  have loop5 : ∀ (n i : Nat) (y2 : Int64), i + n = 42 → j_X2_handFrom_5 vrow x0 n i y2 = (j_X2_handFrom vrow x0) → ∀ (ls : Array Slot), lv_has ls 5 [(4, .int (nI i)), (2, .long y2), (0, .ref a0), (1, .int x0)] → W p l e rX2_handFrom s m ([.ref a0, .int x0] : List Value).toArray below meth c s.heap [] 0 0 (MQ below (k2_QcV (.long (j_X2_handFrom vrow x0))) ([.ref a0, .int x0] : List Value).toArray s 0 0 (fun _ => False)) (F0 m 5 ls []) := by
    intro n
    induction n with
    | zero =>
      intro i y2 hin hv ls hl
      have hge : (42 : Int32) ≤ nI i := by rw [show i = 42 by omega]; decide
      have hgl : ¬ nI i < (42 : Int32) := by rw [show i = 42 by omega]; decide
      refine lv_iload hx hb dX2_handFrom_5 (lv_at hl 0 rfl) ?_
      refine lv_bipush (v := 42) hx hb dX2_handFrom_7 (by decide) ?_
      refine lv_icmp_ge (tgt := 46) hx hb dX2_handFrom_9 (by decide) (fun _ => ?_) (fun c_ => absurd hge c_)
      refine lv_lload_n hx hb dX2_handFrom_46 rfl (lv_at hl 1 rfl) ?_
      exact jr_lret hx hb hr hlocks dX2_handFrom_47 (by rw [← hv]; simp only [j_X2_handFrom_5, if_pos hge, if_neg hgl])
    | succ n ih =>
      intro i y2 hin hv ls hl
      have hge : ¬ (42 : Int32) ≤ nI i := nI_ge (a := i) (b := 42) (by omega) (by decide)
      have hgl : nI i < (42 : Int32) := nI_lt (a := i) (b := 42) (by omega) (by decide)
      refine lv_iload hx hb dX2_handFrom_5 (lv_at hl 0 rfl) ?_
      refine lv_bipush (v := 42) hx hb dX2_handFrom_7 (by decide) ?_
      refine lv_icmp_ge (tgt := 46) hx hb dX2_handFrom_9 (by decide) (fun c_ => absurd c_ hge) (fun _ => ?_)
      refine lv_iload hx hb dX2_handFrom_12 (lv_at hl 0 rfl) ?_
      refine lv_iload_n hx hb dX2_handFrom_14 rfl (lv_at hl 3 rfl) ?_
      refine lv_icmp_lt (tgt := 40) hx hb dX2_handFrom_15 (by decide) (fun c_5001 => ?_) (fun c_5001 => ?_)
      · skip
        refine lv_iinc (v := nI (i + 1)) (lv' := [(4, .int (nI (i + 1))), (2, .long y2), (0, .ref a0), (1, .int x0)]) hx hb dX2_handFrom_40 hl (k := 0) rfl (nI_1 i) (by decide) rfl (fun ls hl => ?_)
        refine lv_goto (tgt := 5) hx hb dX2_handFrom_43 (by decide) ?_
        exact ih (i + 1) y2 (by omega) (by rw [← hv]; simp only [j_X2_handFrom_5, if_neg hge, if_pos hgl, if_pos c_5001]) ls (lv_sub hl [0, 1, 2, 3] rfl)
      · skip
        refine lv_iload hx hb dX2_handFrom_18 (lv_at hl 0 rfl) ?_
        refine lv_iload_n hx hb dX2_handFrom_20 rfl (lv_at hl 3 rfl) ?_
        refine lv_bipush (v := 6) hx hb dX2_handFrom_21 (by decide) ?_
        refine lv_iadd hx hb dX2_handFrom_23 ?_
        refine lv_icmp_ge (tgt := 40) hx hb dX2_handFrom_24 (by decide) (fun c_5002 => ?_) (fun c_5002 => ?_)
        · skip
          refine lv_iinc (v := nI (i + 1)) (lv' := [(4, .int (nI (i + 1))), (2, .long y2), (0, .ref a0), (1, .int x0)]) hx hb dX2_handFrom_40 hl (k := 0) rfl (nI_1 i) (by decide) rfl (fun ls hl => ?_)
          refine lv_goto (tgt := 5) hx hb dX2_handFrom_43 (by decide) ?_
          exact ih (i + 1) y2 (by omega) (by rw [← hv]; simp only [j_X2_handFrom_5, if_neg hge, if_pos hgl, if_neg c_5001, if_pos c_5002]) ls (lv_sub hl [0, 1, 2, 3] rfl)
        · skip
          refine lv_lload_n hx hb dX2_handFrom_27 rfl (lv_at hl 1 rfl) ?_
          refine lv_aload_n hx hb dX2_handFrom_28 rfl (lv_at hl 2 rfl) ?_
          refine va_get (D := D) (ci := 2) (v := .ref aR) (C := RX2) (T := TX2) (N := 11) hx hb hts inX2_handFrom_X2 hown hK hP 0 rfl rfl 0 (by decide) (hts (.fieldLink RX2 9 "ArchivistTricks" "row" "[I") (by decide +kernel)) (fun _ h9 => h9) rfl dX2_handFrom_29 ?_
          refine lv_iload hx hb dX2_handFrom_32 (lv_at hl 0 rfl) ?_
          refine va_iald hx hb hK hP 3 0 rfl rfl (i := nI i) (vp_in_nI (by omega) (by decide)) dX2_handFrom_34 ?_
          refine jr_callS (n := 1) (As := [.int (vrow (nI i).toNatClampNeg)]) (rest := [.long y2]) S (c_X2_bit (vrow (nI i).toNatClampNeg)) gX2_handFrom_X2_bit rfl (by decide +kernel) rfl ⟨⟨rfl, rfl⟩, ⟨Nat.le_of_ble_eq_true rfl, Nat.le_of_ble_eq_true rfl⟩, Nat.le_of_ble_eq_true rfl, Nat.le_of_ble_eq_true rfl⟩ hP hK hN [] [] rfl rfl (lv_nil hl) rfl (Nat.le_of_ble_eq_true rfl) dX2_handFrom_35 ?_
          refine lv_lor hx hb dX2_handFrom_38 ?_
          refine lv_lstore_n (lv' := [(2, .long (y2 ||| (j_X2_bit (vrow (nI i).toNatClampNeg)))), (4, .int (nI i)), (0, .ref a0), (1, .int x0)]) hx hb dX2_handFrom_39 rfl hl (by decide) rfl (fun ls hl => ?_)
          refine lv_iinc (v := nI (i + 1)) (lv' := [(4, .int (nI (i + 1))), (2, .long (y2 ||| (j_X2_bit (vrow (nI i).toNatClampNeg)))), (0, .ref a0), (1, .int x0)]) hx hb dX2_handFrom_40 hl (k := 1) rfl (nI_1 i) (by decide) rfl (fun ls hl => ?_)
          refine lv_goto (tgt := 5) hx hb dX2_handFrom_43 (by decide) ?_
          exact ih (i + 1) (y2 ||| (j_X2_bit (vrow (nI i).toNatClampNeg))) (by omega) (by rw [← hv]; simp only [j_X2_handFrom_5, if_neg hge, if_pos hgl, if_neg c_5001, if_neg c_5002]) ls (lv_sub hl [0, 1, 2, 3] rfl)
  refine lv_lconst (v := 0) hx hb dX2_handFrom_0 (by decide) ?_
  refine lv_lstore_n (lv' := [(2, .long 0), (0, .ref a0), (1, .int x0)]) hx hb dX2_handFrom_1 rfl hl (by decide) rfl (fun ls hl => ?_)
  refine lv_iconst (v := 0) hx hb dX2_handFrom_2 (by decide) ?_
  refine lv_istore (lv' := [(4, .int 0), (2, .long 0), (0, .ref a0), (1, .int x0)]) hx hb dX2_handFrom_3 hl (by decide) rfl (fun ls hl => ?_)
  exact loop5 42 0 0 rfl (by simp only [j_X2_handFrom]) ls (lv_sub (l' := [(4, .int (nI 0)), (2, .long 0), (0, .ref a0), (1, .int x0)]) hl [0, 1, 2, 3] rfl)
end
section
/-! THE CLASS: methods that write (laid by wip/p24/rows.py) -/
abbrev rX0_begin : Room := { frames := 0, cells := 0, slots := 0, locals := 0 }
def j_X0_begin_vh (x0 : Int64) : Int64 := x0
def j_X0_begin_vt  : Int64 := 0
def j_X0_begin_vp  : Int32 := 0
def j_X0_begin_vk  : Int32 := 0
def j_X0_begin_vg  : Int32 := 0
theorem inX0_begin_X0 : ∀ w ∈ u_ws RX0 TX0 5, w ∈ wsX0_begin := by decide +kernel
set_option maxRecDepth 100000 in
set_option maxHeartbeats 8000000 in
theorem c_X0_begin {l : Launch} {D : va_G} (aF : Nat) (vh : Int64) (vt : Int64) (vp : Int32) (vk : Int32) (vg : Int32) (x0 : Int64) : jWv l yX0_begin wsX0_begin rX0_begin D [.ref aF, .long x0] (jA aF vh vt vp vk vg) [] (jA aF (j_X0_begin_vh x0) (j_X0_begin_vt) (j_X0_begin_vp) (j_X0_begin_vk) (j_X0_begin_vg)) := by
  refine jW_of (QQ := fun A => (jQv D (jA aF (j_X0_begin_vh x0) (j_X0_begin_vt) (j_X0_begin_vp) (j_X0_begin_vk) (j_X0_begin_vg)) [] A)) (cc := cX0_begin) (maxL := 3) (ret := none) (by decide) rfl (Nat.le_of_ble_eq_true rfl) ?_
  intro p e s m below meth c ls A S hr hlocks hini hP hK hN hD hS hA hl
  obtain ⟨hx, hb, hml, hown, hts⟩ := id S
  have hl : lv_has ls 3 [(0, .ref aF), (1, .long x0)] := hl
  refine lv_aload_n hx hb dX0_begin_0 rfl (lv_at hl 0 rfl) ?_
  refine lv_lload_n hx hb dX0_begin_1 rfl (lv_at hl 1 rfl) ?_
  refine va_put (D := D) (ci := 0) (v := .long x0) (ty := .long) (C := RX0) (T := TX0) (N := 5) hx hb hts inX0_begin_X0 tyX0 tyX0_ok nmX0 hown hK hP hD hS 0 rfl rfl 0 (by decide) (hts (.fieldLink RX0 9 "ArchivistTricks$Archivist" "hand" "J") (by decide +kernel)) (fun _ h9 => h9) rfl (by decide +kernel) rfl rfl (Nat.le_of_ble_eq_true rfl) dX0_begin_2 (fun H locs hP hD hS => ?_)
  have hP : va_P D vwCl [(aF, .inr (0, [.long x0, .long vt, .int vp, .int vk, .int vg]))] H := hP
  have hD : va_D A [(aF, .inr (0, [.long x0, .long vt, .int vp, .int vk, .int vg]))] := hD
  refine lv_aload_n hx hb dX0_begin_5 rfl (lv_at hl 0 rfl) ?_
  refine lv_lconst (v := 0) hx hb dX0_begin_6 (by decide) ?_
  refine va_put (D := D) (ci := 0) (v := .long 0) (ty := .long) (C := RX0) (T := TX0) (N := 5) hx hb hts inX0_begin_X0 tyX0 tyX0_ok nmX0 hown hK hP hD hS 0 rfl rfl 1 (by decide) (hts (.fieldLink RX0 15 "ArchivistTricks$Archivist" "taken" "J") (by decide +kernel)) (fun _ h9 => h9) rfl (by decide +kernel) rfl rfl (Nat.le_of_ble_eq_true rfl) dX0_begin_7 (fun H locs hP hD hS => ?_)
  have hP : va_P D vwCl [(aF, .inr (0, [.long x0, .long 0, .int vp, .int vk, .int vg]))] H := hP
  have hD : va_D A [(aF, .inr (0, [.long x0, .long 0, .int vp, .int vk, .int vg]))] := hD
  refine lv_aload_n hx hb dX0_begin_10 rfl (lv_at hl 0 rfl) ?_
  refine lv_iconst (v := 0) hx hb dX0_begin_11 (by decide) ?_
  refine va_put (D := D) (ci := 0) (v := .int 0) (ty := .int) (C := RX0) (T := TX0) (N := 5) hx hb hts inX0_begin_X0 tyX0 tyX0_ok nmX0 hown hK hP hD hS 0 rfl rfl 2 (by decide) (hts (.fieldLink RX0 18 "ArchivistTricks$Archivist" "points" "I") (by decide +kernel)) (fun _ h9 => h9) rfl (by decide +kernel) rfl rfl (Nat.le_of_ble_eq_true rfl) dX0_begin_12 (fun H locs hP hD hS => ?_)
  have hP : va_P D vwCl [(aF, .inr (0, [.long x0, .long 0, .int 0, .int vk, .int vg]))] H := hP
  have hD : va_D A [(aF, .inr (0, [.long x0, .long 0, .int 0, .int vk, .int vg]))] := hD
  refine lv_aload_n hx hb dX0_begin_15 rfl (lv_at hl 0 rfl) ?_
  refine lv_iconst (v := 0) hx hb dX0_begin_16 (by decide) ?_
  refine va_put (D := D) (ci := 0) (v := .int 0) (ty := .int) (C := RX0) (T := TX0) (N := 5) hx hb hts inX0_begin_X0 tyX0 tyX0_ok nmX0 hown hK hP hD hS 0 rfl rfl 3 (by decide) (hts (.fieldLink RX0 22 "ArchivistTricks$Archivist" "tricks" "I") (by decide +kernel)) (fun _ h9 => h9) rfl (by decide +kernel) rfl rfl (Nat.le_of_ble_eq_true rfl) dX0_begin_17 (fun H locs hP hD hS => ?_)
  have hP : va_P D vwCl [(aF, .inr (0, [.long x0, .long 0, .int 0, .int 0, .int vg]))] H := hP
  have hD : va_D A [(aF, .inr (0, [.long x0, .long 0, .int 0, .int 0, .int vg]))] := hD
  refine lv_aload_n hx hb dX0_begin_20 rfl (lv_at hl 0 rfl) ?_
  refine lv_iconst (v := 0) hx hb dX0_begin_21 (by decide) ?_
  refine va_put (D := D) (ci := 0) (v := .int 0) (ty := .int) (C := RX0) (T := TX0) (N := 5) hx hb hts inX0_begin_X0 tyX0 tyX0_ok nmX0 hown hK hP hD hS 0 rfl rfl 4 (by decide) (hts (.fieldLink RX0 25 "ArchivistTricks$Archivist" "gloves" "I") (by decide +kernel)) (fun _ h9 => h9) rfl (by decide +kernel) rfl rfl (Nat.le_of_ble_eq_true rfl) dX0_begin_22 (fun H locs hP hD hS => ?_)
  have hP : va_P D vwCl [(aF, .inr (0, [.long x0, .long 0, .int 0, .int 0, .int 0]))] H := hP
  have hD : va_D A [(aF, .inr (0, [.long x0, .long 0, .int 0, .int 0, .int 0]))] := hD
  exact jw_vret hx hb hr hlocks hK hP hD hS dX0_begin_25 (by  simp only [j_X0_begin_vh, j_X0_begin_vt, j_X0_begin_vp, j_X0_begin_vk, j_X0_begin_vg])

abbrev rX0_loseWornGloves : Room := { frames := 0, cells := 0, slots := 0, locals := 0 }
def j_X0_loseWornGloves_vg (vg : Int32) : Int32 := (if vg = 1 then 2 else vg)
theorem inX0_loseWornGloves_X0 : ∀ w ∈ u_ws RX0 TX0 5, w ∈ wsX0_loseWornGloves := by decide +kernel
set_option maxRecDepth 100000 in
set_option maxHeartbeats 8000000 in
theorem c_X0_loseWornGloves {l : Launch} {D : va_G} (aF : Nat) (vh : Int64) (vt : Int64) (vp : Int32) (vk : Int32) (vg : Int32) : jWv l yX0_loseWornGloves wsX0_loseWornGloves rX0_loseWornGloves D [.ref aF] (jA aF vh vt vp vk vg) [] (jA aF vh vt vp vk (j_X0_loseWornGloves_vg vg)) := by
  refine jW_of (QQ := fun A => (jQv D (jA aF vh vt vp vk (j_X0_loseWornGloves_vg vg)) [] A)) (cc := cX0_loseWornGloves) (maxL := 1) (ret := none) (by decide) rfl (Nat.le_of_ble_eq_true rfl) ?_
  intro p e s m below meth c ls A S hr hlocks hini hP hK hN hD hS hA hl
  obtain ⟨hx, hb, hml, hown, hts⟩ := id S
  have hl : lv_has ls 1 [(0, .ref aF)] := hl
  refine lv_aload_n hx hb dX0_loseWornGloves_0 rfl (lv_at hl 0 rfl) ?_
  refine va_get (D := D) (ci := 0) (v := .int vg) (C := RX0) (T := TX0) (N := 5) hx hb hts inX0_loseWornGloves_X0 hown hK hP 0 rfl rfl 4 (by decide) (hts (.fieldLink RX0 25 "ArchivistTricks$Archivist" "gloves" "I") (by decide +kernel)) (fun _ h9 => h9) rfl dX0_loseWornGloves_1 ?_
  refine lv_iconst (v := 1) hx hb dX0_loseWornGloves_4 (by decide) ?_
  refine lv_icmp_ne (tgt := 13) hx hb dX0_loseWornGloves_5 (by decide) (fun c_1 => ?_) (fun c_1 => ?_)
  · skip
    exact jw_vret hx hb hr hlocks hK hP hD hS dX0_loseWornGloves_13 (by  simp only [j_X0_loseWornGloves_vg, if_neg c_1])
  · skip
    refine lv_aload_n hx hb dX0_loseWornGloves_8 rfl (lv_at hl 0 rfl) ?_
    refine lv_iconst (v := 2) hx hb dX0_loseWornGloves_9 (by decide) ?_
    refine va_put (D := D) (ci := 0) (v := .int 2) (ty := .int) (C := RX0) (T := TX0) (N := 5) hx hb hts inX0_loseWornGloves_X0 tyX0 tyX0_ok nmX0 hown hK hP hD hS 0 rfl rfl 4 (by decide) (hts (.fieldLink RX0 25 "ArchivistTricks$Archivist" "gloves" "I") (by decide +kernel)) (fun _ h9 => h9) rfl (by decide +kernel) rfl rfl (Nat.le_of_ble_eq_true rfl) dX0_loseWornGloves_10 (fun H locs hP hD hS => ?_)
    have hP : va_P D vwCl [(aF, .inr (0, [.long vh, .long vt, .int vp, .int vk, .int 2]))] H := hP
    have hD : va_D A [(aF, .inr (0, [.long vh, .long vt, .int vp, .int vk, .int 2]))] := hD
    exact jw_vret hx hb hr hlocks hK hP hD hS dX0_loseWornGloves_13 (by  simp only [j_X0_loseWornGloves_vg, if_pos c_1])

abbrev rX2_drawFor_F : Room := { frames := 1, cells := 0, slots := 0, locals := 20 }
def j_X2_drawFor_F_vdrawn (vdrawn : Int32) : Int32 := (if vdrawn < 0 then vdrawn else (if 42 ≤ vdrawn then vdrawn else vdrawn + 1))
def j_X2_drawFor_F_vh1 (vrow : Nat → Int32) (vdrawn : Int32) (vh1 : Int64) : Int64 := (if vdrawn < 0 then vh1 else (if 42 ≤ vdrawn then vh1 else vh1 ||| (j_X2_bit (vrow (vdrawn).toNatClampNeg))))
theorem inX2_drawFor_F_X0 : ∀ w ∈ u_ws RX0 TX0 5, w ∈ wsX2_drawFor := by decide +kernel
theorem inX2_drawFor_F_X2 : ∀ w ∈ u_ws RX2 TX2 11, w ∈ wsX2_drawFor := by decide +kernel
set_option maxRecDepth 100000 in
set_option maxHeartbeats 8000000 in
theorem c_X2_drawFor_F {l : Launch} {D : va_G} (a0 : Nat) (aR : Nat) (aF : Nat) (aG : Nat) (cI : ClassId) (vrow : Nat → Int32) (vdrawn : Int32) (vtr : Int32) (vled : Int32) (vmov : Int32) (vw1 : Int32) (vw2 : Int32) (veo : Option Nat) (veb : Int32) (vh1 : Int64) (vt1 : Int64) (vp1 : Int32) (vk1 : Int32) (vg1 : Int32) (vh2 : Int64) (vt2 : Int64) (vp2 : Int32) (vk2 : Int32) (vg2 : Int32) : jWv l yX2_drawFor wsX2_drawFor rX2_drawFor_F D [.ref a0, .ref aF] (jC a0 aR aF aG cI vrow vdrawn vtr vled vmov vw1 vw2 veo veb vh1 vt1 vp1 vk1 vg1 vh2 vt2 vp2 vk2 vg2) [(cI, .int)] (jC a0 aR aF aG cI vrow (j_X2_drawFor_F_vdrawn vdrawn) vtr vled vmov vw1 vw2 veo veb (j_X2_drawFor_F_vh1 vrow vdrawn vh1) vt1 vp1 vk1 vg1 vh2 vt2 vp2 vk2 vg2) := by
  refine jW_of (QQ := fun A => (jQv D (jC a0 aR aF aG cI vrow (j_X2_drawFor_F_vdrawn vdrawn) vtr vled vmov vw1 vw2 veo veb (j_X2_drawFor_F_vh1 vrow vdrawn vh1) vt1 vp1 vk1 vg1 vh2 vt2 vp2 vk2 vg2) [(cI, .int)] A)) (cc := cX2_drawFor) (maxL := 2) (ret := none) (by decide) rfl (Nat.le_of_ble_eq_true rfl) ?_
  intro p e s m below meth c ls A S hr hlocks hini hP hK hN hD hS hA hl
  obtain ⟨hx, hb, hml, hown, hts⟩ := id S
  have hl : lv_has ls 2 [(0, .ref a0), (1, .ref aF)] := hl
  refine lv_aload_n hx hb dX2_drawFor_0 rfl (lv_at hl 0 rfl) ?_
  refine va_get (D := D) (ci := 2) (v := .int vdrawn) (C := RX2) (T := TX2) (N := 11) hx hb hts inX2_drawFor_F_X2 hown hK hP 0 rfl rfl 3 (by decide) (hts (.fieldLink RX2 23 "ArchivistTricks" "drawn" "I") (by decide +kernel)) (fun _ h9 => h9) rfl dX2_drawFor_1 ?_
  refine lv_if_lt (tgt := 47) hx hb dX2_drawFor_4 (by decide) (fun c_1 => ?_) (fun c_1 => ?_)
  · skip
    exact jw_vret hx hb hr hlocks hK hP hD hS dX2_drawFor_47 (by  simp only [j_X2_drawFor_F_vdrawn, j_X2_drawFor_F_vh1, if_pos c_1])
  · skip
    refine lv_aload_n hx hb dX2_drawFor_7 rfl (lv_at hl 0 rfl) ?_
    refine va_get (D := D) (ci := 2) (v := .int vdrawn) (C := RX2) (T := TX2) (N := 11) hx hb hts inX2_drawFor_F_X2 hown hK hP 0 rfl rfl 3 (by decide) (hts (.fieldLink RX2 23 "ArchivistTricks" "drawn" "I") (by decide +kernel)) (fun _ h9 => h9) rfl dX2_drawFor_8 ?_
    refine lv_bipush (v := 42) hx hb dX2_drawFor_11 (by decide) ?_
    refine lv_icmp_ge (tgt := 47) hx hb dX2_drawFor_13 (by decide) (fun c_2 => ?_) (fun c_2 => ?_)
    · skip
      exact jw_vret hx hb hr hlocks hK hP hD hS dX2_drawFor_47 (by  simp only [j_X2_drawFor_F_vdrawn, j_X2_drawFor_F_vh1, if_neg c_1, if_pos c_2])
    · skip
      refine lv_aload_n hx hb dX2_drawFor_16 rfl (lv_at hl 1 rfl) ?_
      refine lv_dup hx hb dX2_drawFor_17 rfl ?_
      refine va_get (D := D) (ci := 0) (v := .long vh1) (C := RX0) (T := TX0) (N := 5) hx hb hts inX2_drawFor_F_X0 hown hK hP 1 rfl rfl 0 (by decide) (hts (.fieldLink RX2 91 "ArchivistTricks$Archivist" "hand" "J") (by decide +kernel)) (fun _ h9 => h9) rfl dX2_drawFor_18 ?_
      refine lv_aload_n hx hb dX2_drawFor_21 rfl (lv_at hl 0 rfl) ?_
      refine va_get (D := D) (ci := 2) (v := .ref aR) (C := RX2) (T := TX2) (N := 11) hx hb hts inX2_drawFor_F_X2 hown hK hP 0 rfl rfl 0 (by decide) (hts (.fieldLink RX2 9 "ArchivistTricks" "row" "[I") (by decide +kernel)) (fun _ h9 => h9) rfl dX2_drawFor_22 ?_
      refine lv_aload_n hx hb dX2_drawFor_25 rfl (lv_at hl 0 rfl) ?_
      refine va_get (D := D) (ci := 2) (v := .int vdrawn) (C := RX2) (T := TX2) (N := 11) hx hb hts inX2_drawFor_F_X2 hown hK hP 0 rfl rfl 3 (by decide) (hts (.fieldLink RX2 23 "ArchivistTricks" "drawn" "I") (by decide +kernel)) (fun _ h9 => h9) rfl dX2_drawFor_26 ?_
      refine va_iald hx hb hK hP 3 0 rfl rfl (i := vdrawn) (jx_in c_1 c_2 rfl (by decide)) dX2_drawFor_29 ?_
      refine jr_callS (n := 1) (As := [.int (vrow (vdrawn).toNatClampNeg)]) (rest := [.long vh1, .ref aF]) S (c_X2_bit (vrow (vdrawn).toNatClampNeg)) gX2_drawFor_X2_bit rfl (by decide +kernel) rfl ⟨⟨rfl, rfl⟩, ⟨Nat.le_of_ble_eq_true rfl, Nat.le_of_ble_eq_true rfl⟩, Nat.le_of_ble_eq_true rfl, Nat.le_of_ble_eq_true rfl⟩ hP hK hN [] [] rfl rfl (lv_nil hl) rfl (Nat.le_of_ble_eq_true rfl) dX2_drawFor_30 ?_
      refine lv_lor hx hb dX2_drawFor_33 ?_
      refine va_put (D := D) (ci := 0) (v := .long (vh1 ||| (j_X2_bit (vrow (vdrawn).toNatClampNeg)))) (ty := .long) (C := RX0) (T := TX0) (N := 5) hx hb hts inX2_drawFor_F_X0 tyX0 tyX0_ok nmX0 hown hK hP hD hS 1 rfl rfl 0 (by decide) (hts (.fieldLink RX2 91 "ArchivistTricks$Archivist" "hand" "J") (by decide +kernel)) (fun _ h9 => h9) rfl (by decide +kernel) rfl rfl (Nat.le_of_ble_eq_true rfl) dX2_drawFor_34 (fun H locs hP hD hS => ?_)
      have hP : va_P D vwCl [(a0, .inr (2, [.ref aR, .ref aF, .ref aG, .int vdrawn, .int vtr, .int vled, .int vmov, .int vw1, .int vw2, va_rf veo, .int veb])), (aF, .inr (0, [.long (vh1 ||| (j_X2_bit (vrow (vdrawn).toNatClampNeg))), .long vt1, .int vp1, .int vk1, .int vg1])), (aG, .inr (0, [.long vh2, .long vt2, .int vp2, .int vk2, .int vg2])), (aR, .inl (cI, 42, .inl vrow))] H := hP
      have hD : va_D A [(a0, .inr (2, [.ref aR, .ref aF, .ref aG, .int vdrawn, .int vtr, .int vled, .int vmov, .int vw1, .int vw2, va_rf veo, .int veb])), (aF, .inr (0, [.long (vh1 ||| (j_X2_bit (vrow (vdrawn).toNatClampNeg))), .long vt1, .int vp1, .int vk1, .int vg1])), (aG, .inr (0, [.long vh2, .long vt2, .int vp2, .int vk2, .int vg2])), (aR, .inl (cI, 42, .inl vrow))] := hD
      refine lv_aload_n hx hb dX2_drawFor_37 rfl (lv_at hl 0 rfl) ?_
      refine lv_dup hx hb dX2_drawFor_38 rfl ?_
      refine va_get (D := D) (ci := 2) (v := .int vdrawn) (C := RX2) (T := TX2) (N := 11) hx hb hts inX2_drawFor_F_X2 hown hK hP 0 rfl rfl 3 (by decide) (hts (.fieldLink RX2 23 "ArchivistTricks" "drawn" "I") (by decide +kernel)) (fun _ h9 => h9) rfl dX2_drawFor_39 ?_
      refine lv_iconst (v := 1) hx hb dX2_drawFor_42 (by decide) ?_
      refine lv_iadd hx hb dX2_drawFor_43 ?_
      refine va_put (D := D) (ci := 2) (v := .int (vdrawn + 1)) (ty := .int) (C := RX2) (T := TX2) (N := 11) hx hb hts inX2_drawFor_F_X2 tyX2 tyX2_ok nmX2 hown hK hP hD hS 0 rfl rfl 3 (by decide) (hts (.fieldLink RX2 23 "ArchivistTricks" "drawn" "I") (by decide +kernel)) (fun _ h9 => h9) rfl (by decide +kernel) rfl rfl (Nat.le_of_ble_eq_true rfl) dX2_drawFor_44 (fun H locs hP hD hS => ?_)
      have hP : va_P D vwCl [(a0, .inr (2, [.ref aR, .ref aF, .ref aG, .int (vdrawn + 1), .int vtr, .int vled, .int vmov, .int vw1, .int vw2, va_rf veo, .int veb])), (aF, .inr (0, [.long (vh1 ||| (j_X2_bit (vrow (vdrawn).toNatClampNeg))), .long vt1, .int vp1, .int vk1, .int vg1])), (aG, .inr (0, [.long vh2, .long vt2, .int vp2, .int vk2, .int vg2])), (aR, .inl (cI, 42, .inl vrow))] H := hP
      have hD : va_D A [(a0, .inr (2, [.ref aR, .ref aF, .ref aG, .int (vdrawn + 1), .int vtr, .int vled, .int vmov, .int vw1, .int vw2, va_rf veo, .int veb])), (aF, .inr (0, [.long (vh1 ||| (j_X2_bit (vrow (vdrawn).toNatClampNeg))), .long vt1, .int vp1, .int vk1, .int vg1])), (aG, .inr (0, [.long vh2, .long vt2, .int vp2, .int vk2, .int vg2])), (aR, .inl (cI, 42, .inl vrow))] := hD
      exact jw_vret hx hb hr hlocks hK hP hD hS dX2_drawFor_47 (by  simp only [j_X2_drawFor_F_vdrawn, j_X2_drawFor_F_vh1, if_neg c_1, if_neg c_2])

abbrev rX2_drawFor_G : Room := { frames := 1, cells := 0, slots := 0, locals := 20 }
def j_X2_drawFor_G_vdrawn (vdrawn : Int32) : Int32 := (if vdrawn < 0 then vdrawn else (if 42 ≤ vdrawn then vdrawn else vdrawn + 1))
def j_X2_drawFor_G_vh2 (vrow : Nat → Int32) (vdrawn : Int32) (vh2 : Int64) : Int64 := (if vdrawn < 0 then vh2 else (if 42 ≤ vdrawn then vh2 else vh2 ||| (j_X2_bit (vrow (vdrawn).toNatClampNeg))))
theorem inX2_drawFor_G_X0 : ∀ w ∈ u_ws RX0 TX0 5, w ∈ wsX2_drawFor := by decide +kernel
theorem inX2_drawFor_G_X2 : ∀ w ∈ u_ws RX2 TX2 11, w ∈ wsX2_drawFor := by decide +kernel
set_option maxRecDepth 100000 in
set_option maxHeartbeats 8000000 in
theorem c_X2_drawFor_G {l : Launch} {D : va_G} (a0 : Nat) (aR : Nat) (aF : Nat) (aG : Nat) (cI : ClassId) (vrow : Nat → Int32) (vdrawn : Int32) (vtr : Int32) (vled : Int32) (vmov : Int32) (vw1 : Int32) (vw2 : Int32) (veo : Option Nat) (veb : Int32) (vh1 : Int64) (vt1 : Int64) (vp1 : Int32) (vk1 : Int32) (vg1 : Int32) (vh2 : Int64) (vt2 : Int64) (vp2 : Int32) (vk2 : Int32) (vg2 : Int32) : jWv l yX2_drawFor wsX2_drawFor rX2_drawFor_G D [.ref a0, .ref aG] (jC a0 aR aF aG cI vrow vdrawn vtr vled vmov vw1 vw2 veo veb vh1 vt1 vp1 vk1 vg1 vh2 vt2 vp2 vk2 vg2) [(cI, .int)] (jC a0 aR aF aG cI vrow (j_X2_drawFor_G_vdrawn vdrawn) vtr vled vmov vw1 vw2 veo veb vh1 vt1 vp1 vk1 vg1 (j_X2_drawFor_G_vh2 vrow vdrawn vh2) vt2 vp2 vk2 vg2) := by
  refine jW_of (QQ := fun A => (jQv D (jC a0 aR aF aG cI vrow (j_X2_drawFor_G_vdrawn vdrawn) vtr vled vmov vw1 vw2 veo veb vh1 vt1 vp1 vk1 vg1 (j_X2_drawFor_G_vh2 vrow vdrawn vh2) vt2 vp2 vk2 vg2) [(cI, .int)] A)) (cc := cX2_drawFor) (maxL := 2) (ret := none) (by decide) rfl (Nat.le_of_ble_eq_true rfl) ?_
  intro p e s m below meth c ls A S hr hlocks hini hP hK hN hD hS hA hl
  obtain ⟨hx, hb, hml, hown, hts⟩ := id S
  have hl : lv_has ls 2 [(0, .ref a0), (1, .ref aG)] := hl
  refine lv_aload_n hx hb dX2_drawFor_0 rfl (lv_at hl 0 rfl) ?_
  refine va_get (D := D) (ci := 2) (v := .int vdrawn) (C := RX2) (T := TX2) (N := 11) hx hb hts inX2_drawFor_G_X2 hown hK hP 0 rfl rfl 3 (by decide) (hts (.fieldLink RX2 23 "ArchivistTricks" "drawn" "I") (by decide +kernel)) (fun _ h9 => h9) rfl dX2_drawFor_1 ?_
  refine lv_if_lt (tgt := 47) hx hb dX2_drawFor_4 (by decide) (fun c_1 => ?_) (fun c_1 => ?_)
  · skip
    exact jw_vret hx hb hr hlocks hK hP hD hS dX2_drawFor_47 (by  simp only [j_X2_drawFor_G_vdrawn, j_X2_drawFor_G_vh2, if_pos c_1])
  · skip
    refine lv_aload_n hx hb dX2_drawFor_7 rfl (lv_at hl 0 rfl) ?_
    refine va_get (D := D) (ci := 2) (v := .int vdrawn) (C := RX2) (T := TX2) (N := 11) hx hb hts inX2_drawFor_G_X2 hown hK hP 0 rfl rfl 3 (by decide) (hts (.fieldLink RX2 23 "ArchivistTricks" "drawn" "I") (by decide +kernel)) (fun _ h9 => h9) rfl dX2_drawFor_8 ?_
    refine lv_bipush (v := 42) hx hb dX2_drawFor_11 (by decide) ?_
    refine lv_icmp_ge (tgt := 47) hx hb dX2_drawFor_13 (by decide) (fun c_2 => ?_) (fun c_2 => ?_)
    · skip
      exact jw_vret hx hb hr hlocks hK hP hD hS dX2_drawFor_47 (by  simp only [j_X2_drawFor_G_vdrawn, j_X2_drawFor_G_vh2, if_neg c_1, if_pos c_2])
    · skip
      refine lv_aload_n hx hb dX2_drawFor_16 rfl (lv_at hl 1 rfl) ?_
      refine lv_dup hx hb dX2_drawFor_17 rfl ?_
      refine va_get (D := D) (ci := 0) (v := .long vh2) (C := RX0) (T := TX0) (N := 5) hx hb hts inX2_drawFor_G_X0 hown hK hP 2 rfl rfl 0 (by decide) (hts (.fieldLink RX2 91 "ArchivistTricks$Archivist" "hand" "J") (by decide +kernel)) (fun _ h9 => h9) rfl dX2_drawFor_18 ?_
      refine lv_aload_n hx hb dX2_drawFor_21 rfl (lv_at hl 0 rfl) ?_
      refine va_get (D := D) (ci := 2) (v := .ref aR) (C := RX2) (T := TX2) (N := 11) hx hb hts inX2_drawFor_G_X2 hown hK hP 0 rfl rfl 0 (by decide) (hts (.fieldLink RX2 9 "ArchivistTricks" "row" "[I") (by decide +kernel)) (fun _ h9 => h9) rfl dX2_drawFor_22 ?_
      refine lv_aload_n hx hb dX2_drawFor_25 rfl (lv_at hl 0 rfl) ?_
      refine va_get (D := D) (ci := 2) (v := .int vdrawn) (C := RX2) (T := TX2) (N := 11) hx hb hts inX2_drawFor_G_X2 hown hK hP 0 rfl rfl 3 (by decide) (hts (.fieldLink RX2 23 "ArchivistTricks" "drawn" "I") (by decide +kernel)) (fun _ h9 => h9) rfl dX2_drawFor_26 ?_
      refine va_iald hx hb hK hP 3 0 rfl rfl (i := vdrawn) (jx_in c_1 c_2 rfl (by decide)) dX2_drawFor_29 ?_
      refine jr_callS (n := 1) (As := [.int (vrow (vdrawn).toNatClampNeg)]) (rest := [.long vh2, .ref aG]) S (c_X2_bit (vrow (vdrawn).toNatClampNeg)) gX2_drawFor_X2_bit rfl (by decide +kernel) rfl ⟨⟨rfl, rfl⟩, ⟨Nat.le_of_ble_eq_true rfl, Nat.le_of_ble_eq_true rfl⟩, Nat.le_of_ble_eq_true rfl, Nat.le_of_ble_eq_true rfl⟩ hP hK hN [] [] rfl rfl (lv_nil hl) rfl (Nat.le_of_ble_eq_true rfl) dX2_drawFor_30 ?_
      refine lv_lor hx hb dX2_drawFor_33 ?_
      refine va_put (D := D) (ci := 0) (v := .long (vh2 ||| (j_X2_bit (vrow (vdrawn).toNatClampNeg)))) (ty := .long) (C := RX0) (T := TX0) (N := 5) hx hb hts inX2_drawFor_G_X0 tyX0 tyX0_ok nmX0 hown hK hP hD hS 2 rfl rfl 0 (by decide) (hts (.fieldLink RX2 91 "ArchivistTricks$Archivist" "hand" "J") (by decide +kernel)) (fun _ h9 => h9) rfl (by decide +kernel) rfl rfl (Nat.le_of_ble_eq_true rfl) dX2_drawFor_34 (fun H locs hP hD hS => ?_)
      have hP : va_P D vwCl [(a0, .inr (2, [.ref aR, .ref aF, .ref aG, .int vdrawn, .int vtr, .int vled, .int vmov, .int vw1, .int vw2, va_rf veo, .int veb])), (aF, .inr (0, [.long vh1, .long vt1, .int vp1, .int vk1, .int vg1])), (aG, .inr (0, [.long (vh2 ||| (j_X2_bit (vrow (vdrawn).toNatClampNeg))), .long vt2, .int vp2, .int vk2, .int vg2])), (aR, .inl (cI, 42, .inl vrow))] H := hP
      have hD : va_D A [(a0, .inr (2, [.ref aR, .ref aF, .ref aG, .int vdrawn, .int vtr, .int vled, .int vmov, .int vw1, .int vw2, va_rf veo, .int veb])), (aF, .inr (0, [.long vh1, .long vt1, .int vp1, .int vk1, .int vg1])), (aG, .inr (0, [.long (vh2 ||| (j_X2_bit (vrow (vdrawn).toNatClampNeg))), .long vt2, .int vp2, .int vk2, .int vg2])), (aR, .inl (cI, 42, .inl vrow))] := hD
      refine lv_aload_n hx hb dX2_drawFor_37 rfl (lv_at hl 0 rfl) ?_
      refine lv_dup hx hb dX2_drawFor_38 rfl ?_
      refine va_get (D := D) (ci := 2) (v := .int vdrawn) (C := RX2) (T := TX2) (N := 11) hx hb hts inX2_drawFor_G_X2 hown hK hP 0 rfl rfl 3 (by decide) (hts (.fieldLink RX2 23 "ArchivistTricks" "drawn" "I") (by decide +kernel)) (fun _ h9 => h9) rfl dX2_drawFor_39 ?_
      refine lv_iconst (v := 1) hx hb dX2_drawFor_42 (by decide) ?_
      refine lv_iadd hx hb dX2_drawFor_43 ?_
      refine va_put (D := D) (ci := 2) (v := .int (vdrawn + 1)) (ty := .int) (C := RX2) (T := TX2) (N := 11) hx hb hts inX2_drawFor_G_X2 tyX2 tyX2_ok nmX2 hown hK hP hD hS 0 rfl rfl 3 (by decide) (hts (.fieldLink RX2 23 "ArchivistTricks" "drawn" "I") (by decide +kernel)) (fun _ h9 => h9) rfl (by decide +kernel) rfl rfl (Nat.le_of_ble_eq_true rfl) dX2_drawFor_44 (fun H locs hP hD hS => ?_)
      have hP : va_P D vwCl [(a0, .inr (2, [.ref aR, .ref aF, .ref aG, .int (vdrawn + 1), .int vtr, .int vled, .int vmov, .int vw1, .int vw2, va_rf veo, .int veb])), (aF, .inr (0, [.long vh1, .long vt1, .int vp1, .int vk1, .int vg1])), (aG, .inr (0, [.long (vh2 ||| (j_X2_bit (vrow (vdrawn).toNatClampNeg))), .long vt2, .int vp2, .int vk2, .int vg2])), (aR, .inl (cI, 42, .inl vrow))] H := hP
      have hD : va_D A [(a0, .inr (2, [.ref aR, .ref aF, .ref aG, .int (vdrawn + 1), .int vtr, .int vled, .int vmov, .int vw1, .int vw2, va_rf veo, .int veb])), (aF, .inr (0, [.long vh1, .long vt1, .int vp1, .int vk1, .int vg1])), (aG, .inr (0, [.long (vh2 ||| (j_X2_bit (vrow (vdrawn).toNatClampNeg))), .long vt2, .int vp2, .int vk2, .int vg2])), (aR, .inl (cI, 42, .inl vrow))] := hD
      exact jw_vret hx hb hr hlocks hK hP hD hS dX2_drawFor_47 (by  simp only [j_X2_drawFor_G_vdrawn, j_X2_drawFor_G_vh2, if_neg c_1, if_neg c_2])

abbrev rX2_endGame : Room := { frames := 0, cells := 0, slots := 0, locals := 0 }
def j_X2_endGame_vmov  : Int32 := (-1)
def j_X2_endGame_vw1 (vw1 : Int32) (vp1 : Int32) (vp2 : Int32) : Int32 := (if vp1 ≤ vp2 then vw1 else vw1 + 1)
def j_X2_endGame_vw2 (vw2 : Int32) (vp1 : Int32) (vp2 : Int32) : Int32 := (if vp1 ≤ vp2 then (if vp2 ≤ vp1 then vw2 else vw2 + 1) else vw2)
theorem inX2_endGame_X0 : ∀ w ∈ u_ws RX0 TX0 5, w ∈ wsX2_endGame := by decide +kernel
theorem inX2_endGame_X2 : ∀ w ∈ u_ws RX2 TX2 11, w ∈ wsX2_endGame := by decide +kernel
set_option maxRecDepth 100000 in
set_option maxHeartbeats 8000000 in
theorem c_X2_endGame {l : Launch} {D : va_G} (a0 : Nat) (aR : Nat) (aF : Nat) (aG : Nat) (cI : ClassId) (vrow : Nat → Int32) (vdrawn : Int32) (vtr : Int32) (vled : Int32) (vmov : Int32) (vw1 : Int32) (vw2 : Int32) (veo : Option Nat) (veb : Int32) (vh1 : Int64) (vt1 : Int64) (vp1 : Int32) (vk1 : Int32) (vg1 : Int32) (vh2 : Int64) (vt2 : Int64) (vp2 : Int32) (vk2 : Int32) (vg2 : Int32) : jWv l yX2_endGame wsX2_endGame rX2_endGame D [.ref a0] (jC a0 aR aF aG cI vrow vdrawn vtr vled vmov vw1 vw2 veo veb vh1 vt1 vp1 vk1 vg1 vh2 vt2 vp2 vk2 vg2) [(cI, .int)] (jC a0 aR aF aG cI vrow vdrawn vtr vled (j_X2_endGame_vmov) (j_X2_endGame_vw1 vw1 vp1 vp2) (j_X2_endGame_vw2 vw2 vp1 vp2) veo veb vh1 vt1 vp1 vk1 vg1 vh2 vt2 vp2 vk2 vg2) := by
  refine jW_of (QQ := fun A => (jQv D (jC a0 aR aF aG cI vrow vdrawn vtr vled (j_X2_endGame_vmov) (j_X2_endGame_vw1 vw1 vp1 vp2) (j_X2_endGame_vw2 vw2 vp1 vp2) veo veb vh1 vt1 vp1 vk1 vg1 vh2 vt2 vp2 vk2 vg2) [(cI, .int)] A)) (cc := cX2_endGame) (maxL := 1) (ret := none) (by decide) rfl (Nat.le_of_ble_eq_true rfl) ?_
  intro p e s m below meth c ls A S hr hlocks hini hP hK hN hD hS hA hl
  obtain ⟨hx, hb, hml, hown, hts⟩ := id S
  have hl : lv_has ls 1 [(0, .ref a0)] := hl
  refine lv_aload_n hx hb dX2_endGame_0 rfl (lv_at hl 0 rfl) ?_
  refine lv_iconst (v := (-1)) hx hb dX2_endGame_1 (by decide) ?_
  refine va_put (D := D) (ci := 2) (v := .int (-1)) (ty := .int) (C := RX2) (T := TX2) (N := 11) hx hb hts inX2_endGame_X2 tyX2 tyX2_ok nmX2 hown hK hP hD hS 0 rfl rfl 6 (by decide) (hts (.fieldLink RX2 33 "ArchivistTricks" "mover" "I") (by decide +kernel)) (fun _ h9 => h9) rfl (by decide +kernel) rfl rfl (Nat.le_of_ble_eq_true rfl) dX2_endGame_2 (fun H locs hP hD hS => ?_)
  have hP : va_P D vwCl [(a0, .inr (2, [.ref aR, .ref aF, .ref aG, .int vdrawn, .int vtr, .int vled, .int (-1), .int vw1, .int vw2, va_rf veo, .int veb])), (aF, .inr (0, [.long vh1, .long vt1, .int vp1, .int vk1, .int vg1])), (aG, .inr (0, [.long vh2, .long vt2, .int vp2, .int vk2, .int vg2])), (aR, .inl (cI, 42, .inl vrow))] H := hP
  have hD : va_D A [(a0, .inr (2, [.ref aR, .ref aF, .ref aG, .int vdrawn, .int vtr, .int vled, .int (-1), .int vw1, .int vw2, va_rf veo, .int veb])), (aF, .inr (0, [.long vh1, .long vt1, .int vp1, .int vk1, .int vg1])), (aG, .inr (0, [.long vh2, .long vt2, .int vp2, .int vk2, .int vg2])), (aR, .inl (cI, 42, .inl vrow))] := hD
  refine lv_aload_n hx hb dX2_endGame_5 rfl (lv_at hl 0 rfl) ?_
  refine va_get (D := D) (ci := 2) (v := .ref aF) (C := RX2) (T := TX2) (N := 11) hx hb hts inX2_endGame_X2 hown hK hP 0 rfl rfl 1 (by decide) (hts (.fieldLink RX2 16 "ArchivistTricks" "first" "LArchivistTricks$Archivist;") (by decide +kernel)) (fun _ h9 => h9) rfl dX2_endGame_6 ?_
  refine va_get (D := D) (ci := 0) (v := .int vp1) (C := RX0) (T := TX0) (N := 5) hx hb hts inX2_endGame_X0 hown hK hP 1 rfl rfl 2 (by decide) (hts (.fieldLink RX2 133 "ArchivistTricks$Archivist" "points" "I") (by decide +kernel)) (fun _ h9 => h9) rfl dX2_endGame_9 ?_
  refine lv_aload_n hx hb dX2_endGame_12 rfl (lv_at hl 0 rfl) ?_
  refine va_get (D := D) (ci := 2) (v := .ref aG) (C := RX2) (T := TX2) (N := 11) hx hb hts inX2_endGame_X2 hown hK hP 0 rfl rfl 2 (by decide) (hts (.fieldLink RX2 20 "ArchivistTricks" "second" "LArchivistTricks$Archivist;") (by decide +kernel)) (fun _ h9 => h9) rfl dX2_endGame_13 ?_
  refine va_get (D := D) (ci := 0) (v := .int vp2) (C := RX0) (T := TX0) (N := 5) hx hb hts inX2_endGame_X0 hown hK hP 2 rfl rfl 2 (by decide) (hts (.fieldLink RX2 133 "ArchivistTricks$Archivist" "points" "I") (by decide +kernel)) (fun _ h9 => h9) rfl dX2_endGame_16 ?_
  refine lv_icmp_le (tgt := 35) hx hb dX2_endGame_19 (by decide) (fun c_1 => ?_) (fun c_1 => ?_)
  · skip
    refine lv_aload_n hx hb dX2_endGame_35 rfl (lv_at hl 0 rfl) ?_
    refine va_get (D := D) (ci := 2) (v := .ref aG) (C := RX2) (T := TX2) (N := 11) hx hb hts inX2_endGame_X2 hown hK hP 0 rfl rfl 2 (by decide) (hts (.fieldLink RX2 20 "ArchivistTricks" "second" "LArchivistTricks$Archivist;") (by decide +kernel)) (fun _ h9 => h9) rfl dX2_endGame_36 ?_
    refine va_get (D := D) (ci := 0) (v := .int vp2) (C := RX0) (T := TX0) (N := 5) hx hb hts inX2_endGame_X0 hown hK hP 2 rfl rfl 2 (by decide) (hts (.fieldLink RX2 133 "ArchivistTricks$Archivist" "points" "I") (by decide +kernel)) (fun _ h9 => h9) rfl dX2_endGame_39 ?_
    refine lv_aload_n hx hb dX2_endGame_42 rfl (lv_at hl 0 rfl) ?_
    refine va_get (D := D) (ci := 2) (v := .ref aF) (C := RX2) (T := TX2) (N := 11) hx hb hts inX2_endGame_X2 hown hK hP 0 rfl rfl 1 (by decide) (hts (.fieldLink RX2 16 "ArchivistTricks" "first" "LArchivistTricks$Archivist;") (by decide +kernel)) (fun _ h9 => h9) rfl dX2_endGame_43 ?_
    refine va_get (D := D) (ci := 0) (v := .int vp1) (C := RX0) (T := TX0) (N := 5) hx hb hts inX2_endGame_X0 hown hK hP 1 rfl rfl 2 (by decide) (hts (.fieldLink RX2 133 "ArchivistTricks$Archivist" "points" "I") (by decide +kernel)) (fun _ h9 => h9) rfl dX2_endGame_46 ?_
    refine lv_icmp_le (tgt := 62) hx hb dX2_endGame_49 (by decide) (fun c_2 => ?_) (fun c_2 => ?_)
    · skip
      exact jw_vret hx hb hr hlocks hK hP hD hS dX2_endGame_62 (by  simp only [j_X2_endGame_vmov, j_X2_endGame_vw1, j_X2_endGame_vw2, if_pos c_1, if_pos c_2])
    · skip
      refine lv_aload_n hx hb dX2_endGame_52 rfl (lv_at hl 0 rfl) ?_
      refine lv_dup hx hb dX2_endGame_53 rfl ?_
      refine va_get (D := D) (ci := 2) (v := .int vw2) (C := RX2) (T := TX2) (N := 11) hx hb hts inX2_endGame_X2 hown hK hP 0 rfl rfl 8 (by decide) (hts (.fieldLink RX2 39 "ArchivistTricks" "secondWins" "I") (by decide +kernel)) (fun _ h9 => h9) rfl dX2_endGame_54 ?_
      refine lv_iconst (v := 1) hx hb dX2_endGame_57 (by decide) ?_
      refine lv_iadd hx hb dX2_endGame_58 ?_
      refine va_put (D := D) (ci := 2) (v := .int (vw2 + 1)) (ty := .int) (C := RX2) (T := TX2) (N := 11) hx hb hts inX2_endGame_X2 tyX2 tyX2_ok nmX2 hown hK hP hD hS 0 rfl rfl 8 (by decide) (hts (.fieldLink RX2 39 "ArchivistTricks" "secondWins" "I") (by decide +kernel)) (fun _ h9 => h9) rfl (by decide +kernel) rfl rfl (Nat.le_of_ble_eq_true rfl) dX2_endGame_59 (fun H locs hP hD hS => ?_)
      have hP : va_P D vwCl [(a0, .inr (2, [.ref aR, .ref aF, .ref aG, .int vdrawn, .int vtr, .int vled, .int (-1), .int vw1, .int (vw2 + 1), va_rf veo, .int veb])), (aF, .inr (0, [.long vh1, .long vt1, .int vp1, .int vk1, .int vg1])), (aG, .inr (0, [.long vh2, .long vt2, .int vp2, .int vk2, .int vg2])), (aR, .inl (cI, 42, .inl vrow))] H := hP
      have hD : va_D A [(a0, .inr (2, [.ref aR, .ref aF, .ref aG, .int vdrawn, .int vtr, .int vled, .int (-1), .int vw1, .int (vw2 + 1), va_rf veo, .int veb])), (aF, .inr (0, [.long vh1, .long vt1, .int vp1, .int vk1, .int vg1])), (aG, .inr (0, [.long vh2, .long vt2, .int vp2, .int vk2, .int vg2])), (aR, .inl (cI, 42, .inl vrow))] := hD
      exact jw_vret hx hb hr hlocks hK hP hD hS dX2_endGame_62 (by  simp only [j_X2_endGame_vmov, j_X2_endGame_vw1, j_X2_endGame_vw2, if_pos c_1, if_neg c_2])
  · skip
    refine lv_aload_n hx hb dX2_endGame_22 rfl (lv_at hl 0 rfl) ?_
    refine lv_dup hx hb dX2_endGame_23 rfl ?_
    refine va_get (D := D) (ci := 2) (v := .int vw1) (C := RX2) (T := TX2) (N := 11) hx hb hts inX2_endGame_X2 hown hK hP 0 rfl rfl 7 (by decide) (hts (.fieldLink RX2 36 "ArchivistTricks" "firstWins" "I") (by decide +kernel)) (fun _ h9 => h9) rfl dX2_endGame_24 ?_
    refine lv_iconst (v := 1) hx hb dX2_endGame_27 (by decide) ?_
    refine lv_iadd hx hb dX2_endGame_28 ?_
    refine va_put (D := D) (ci := 2) (v := .int (vw1 + 1)) (ty := .int) (C := RX2) (T := TX2) (N := 11) hx hb hts inX2_endGame_X2 tyX2 tyX2_ok nmX2 hown hK hP hD hS 0 rfl rfl 7 (by decide) (hts (.fieldLink RX2 36 "ArchivistTricks" "firstWins" "I") (by decide +kernel)) (fun _ h9 => h9) rfl (by decide +kernel) rfl rfl (Nat.le_of_ble_eq_true rfl) dX2_endGame_29 (fun H locs hP hD hS => ?_)
    have hP : va_P D vwCl [(a0, .inr (2, [.ref aR, .ref aF, .ref aG, .int vdrawn, .int vtr, .int vled, .int (-1), .int (vw1 + 1), .int vw2, va_rf veo, .int veb])), (aF, .inr (0, [.long vh1, .long vt1, .int vp1, .int vk1, .int vg1])), (aG, .inr (0, [.long vh2, .long vt2, .int vp2, .int vk2, .int vg2])), (aR, .inl (cI, 42, .inl vrow))] H := hP
    have hD : va_D A [(a0, .inr (2, [.ref aR, .ref aF, .ref aG, .int vdrawn, .int vtr, .int vled, .int (-1), .int (vw1 + 1), .int vw2, va_rf veo, .int veb])), (aF, .inr (0, [.long vh1, .long vt1, .int vp1, .int vk1, .int vg1])), (aG, .inr (0, [.long vh2, .long vt2, .int vp2, .int vk2, .int vg2])), (aR, .inl (cI, 42, .inl vrow))] := hD
    refine lv_goto (tgt := 62) hx hb dX2_endGame_32 (by decide) ?_
    exact jw_vret hx hb hr hlocks hK hP hD hS dX2_endGame_62 (by  simp only [j_X2_endGame_vmov, j_X2_endGame_vw1, j_X2_endGame_vw2, if_neg c_1])

abbrev rX2_finishTrick : Room := { frames := 3, cells := 0, slots := 0, locals := 63 }
def j_X2_finishTrick (vtr : Int32) (vled : Int32) (vmov : Int32) (x0 : Int32) : Int32 := j_X2_takerBy vtr vled vmov x0
def j_X2_finishTrick_vdrawn (vdrawn : Int32) (vtr : Int32) (vled : Int32) (vmov : Int32) (x0 : Int32) : Int32 := (if (j_X2_takerBy vtr vled vmov x0) = 0 then (if (1 - (j_X2_takerBy vtr vled vmov x0)) = 0 then j_X2_drawFor_F_vdrawn (j_X2_drawFor_F_vdrawn vdrawn) else j_X2_drawFor_G_vdrawn (j_X2_drawFor_F_vdrawn vdrawn)) else (if (1 - (j_X2_takerBy vtr vled vmov x0)) = 0 then j_X2_drawFor_F_vdrawn (j_X2_drawFor_G_vdrawn vdrawn) else j_X2_drawFor_G_vdrawn (j_X2_drawFor_G_vdrawn vdrawn)))
def j_X2_finishTrick_vled  : Int32 := (-1)
def j_X2_finishTrick_vmov (vrow : Nat → Int32) (vdrawn : Int32) (vtr : Int32) (vled : Int32) (vmov : Int32) (vh1 : Int64) (vh2 : Int64) (x0 : Int32) : Int32 := (if (j_X2_takerBy vtr vled vmov x0) = 0 then (if (1 - (j_X2_takerBy vtr vled vmov x0)) = 0 then (if lg_cmp ((j_X2_drawFor_F_vh1 vrow (j_X2_drawFor_F_vdrawn vdrawn) (j_X2_drawFor_F_vh1 vrow vdrawn vh1)) ||| vh2) 0 = 0 then j_X2_endGame_vmov else j_X2_takerBy vtr vled vmov x0) else (if lg_cmp ((j_X2_drawFor_F_vh1 vrow vdrawn vh1) ||| (j_X2_drawFor_G_vh2 vrow (j_X2_drawFor_F_vdrawn vdrawn) vh2)) 0 = 0 then j_X2_endGame_vmov else j_X2_takerBy vtr vled vmov x0)) else (if (1 - (j_X2_takerBy vtr vled vmov x0)) = 0 then (if lg_cmp ((j_X2_drawFor_F_vh1 vrow (j_X2_drawFor_G_vdrawn vdrawn) vh1) ||| (j_X2_drawFor_G_vh2 vrow vdrawn vh2)) 0 = 0 then j_X2_endGame_vmov else j_X2_takerBy vtr vled vmov x0) else (if lg_cmp (vh1 ||| (j_X2_drawFor_G_vh2 vrow (j_X2_drawFor_G_vdrawn vdrawn) (j_X2_drawFor_G_vh2 vrow vdrawn vh2))) 0 = 0 then j_X2_endGame_vmov else j_X2_takerBy vtr vled vmov x0)))
def j_X2_finishTrick_vw1 (vrow : Nat → Int32) (vdrawn : Int32) (vtr : Int32) (vled : Int32) (vmov : Int32) (vw1 : Int32) (vh1 : Int64) (vp1 : Int32) (vg1 : Int32) (vh2 : Int64) (vp2 : Int32) (vg2 : Int32) (x0 : Int32) : Int32 := (if (j_X2_takerBy vtr vled vmov x0) = 0 then (if vg1 = 1 then (if (1 - (j_X2_takerBy vtr vled vmov x0)) = 0 then (if lg_cmp ((j_X2_drawFor_F_vh1 vrow (j_X2_drawFor_F_vdrawn vdrawn) (j_X2_drawFor_F_vh1 vrow vdrawn vh1)) ||| vh2) 0 = 0 then j_X2_endGame_vw1 vw1 (vp1 + ((j_X2_worth vled 1) + (j_X2_worth x0 1))) vp2 else vw1) else (if lg_cmp ((j_X2_drawFor_F_vh1 vrow vdrawn vh1) ||| (j_X2_drawFor_G_vh2 vrow (j_X2_drawFor_F_vdrawn vdrawn) vh2)) 0 = 0 then j_X2_endGame_vw1 vw1 (vp1 + ((j_X2_worth vled 1) + (j_X2_worth x0 1))) vp2 else vw1)) else (if (1 - (j_X2_takerBy vtr vled vmov x0)) = 0 then (if lg_cmp ((j_X2_drawFor_F_vh1 vrow (j_X2_drawFor_F_vdrawn vdrawn) (j_X2_drawFor_F_vh1 vrow vdrawn vh1)) ||| vh2) 0 = 0 then j_X2_endGame_vw1 vw1 (vp1 + ((j_X2_worth vled 0) + (j_X2_worth x0 0))) vp2 else vw1) else (if lg_cmp ((j_X2_drawFor_F_vh1 vrow vdrawn vh1) ||| (j_X2_drawFor_G_vh2 vrow (j_X2_drawFor_F_vdrawn vdrawn) vh2)) 0 = 0 then j_X2_endGame_vw1 vw1 (vp1 + ((j_X2_worth vled 0) + (j_X2_worth x0 0))) vp2 else vw1))) else (if vg2 = 1 then (if (1 - (j_X2_takerBy vtr vled vmov x0)) = 0 then (if lg_cmp ((j_X2_drawFor_F_vh1 vrow (j_X2_drawFor_G_vdrawn vdrawn) vh1) ||| (j_X2_drawFor_G_vh2 vrow vdrawn vh2)) 0 = 0 then j_X2_endGame_vw1 vw1 vp1 (vp2 + ((j_X2_worth vled 1) + (j_X2_worth x0 1))) else vw1) else (if lg_cmp (vh1 ||| (j_X2_drawFor_G_vh2 vrow (j_X2_drawFor_G_vdrawn vdrawn) (j_X2_drawFor_G_vh2 vrow vdrawn vh2))) 0 = 0 then j_X2_endGame_vw1 vw1 vp1 (vp2 + ((j_X2_worth vled 1) + (j_X2_worth x0 1))) else vw1)) else (if (1 - (j_X2_takerBy vtr vled vmov x0)) = 0 then (if lg_cmp ((j_X2_drawFor_F_vh1 vrow (j_X2_drawFor_G_vdrawn vdrawn) vh1) ||| (j_X2_drawFor_G_vh2 vrow vdrawn vh2)) 0 = 0 then j_X2_endGame_vw1 vw1 vp1 (vp2 + ((j_X2_worth vled 0) + (j_X2_worth x0 0))) else vw1) else (if lg_cmp (vh1 ||| (j_X2_drawFor_G_vh2 vrow (j_X2_drawFor_G_vdrawn vdrawn) (j_X2_drawFor_G_vh2 vrow vdrawn vh2))) 0 = 0 then j_X2_endGame_vw1 vw1 vp1 (vp2 + ((j_X2_worth vled 0) + (j_X2_worth x0 0))) else vw1))))
def j_X2_finishTrick_vw2 (vrow : Nat → Int32) (vdrawn : Int32) (vtr : Int32) (vled : Int32) (vmov : Int32) (vw2 : Int32) (vh1 : Int64) (vp1 : Int32) (vg1 : Int32) (vh2 : Int64) (vp2 : Int32) (vg2 : Int32) (x0 : Int32) : Int32 := (if (j_X2_takerBy vtr vled vmov x0) = 0 then (if vg1 = 1 then (if (1 - (j_X2_takerBy vtr vled vmov x0)) = 0 then (if lg_cmp ((j_X2_drawFor_F_vh1 vrow (j_X2_drawFor_F_vdrawn vdrawn) (j_X2_drawFor_F_vh1 vrow vdrawn vh1)) ||| vh2) 0 = 0 then j_X2_endGame_vw2 vw2 (vp1 + ((j_X2_worth vled 1) + (j_X2_worth x0 1))) vp2 else vw2) else (if lg_cmp ((j_X2_drawFor_F_vh1 vrow vdrawn vh1) ||| (j_X2_drawFor_G_vh2 vrow (j_X2_drawFor_F_vdrawn vdrawn) vh2)) 0 = 0 then j_X2_endGame_vw2 vw2 (vp1 + ((j_X2_worth vled 1) + (j_X2_worth x0 1))) vp2 else vw2)) else (if (1 - (j_X2_takerBy vtr vled vmov x0)) = 0 then (if lg_cmp ((j_X2_drawFor_F_vh1 vrow (j_X2_drawFor_F_vdrawn vdrawn) (j_X2_drawFor_F_vh1 vrow vdrawn vh1)) ||| vh2) 0 = 0 then j_X2_endGame_vw2 vw2 (vp1 + ((j_X2_worth vled 0) + (j_X2_worth x0 0))) vp2 else vw2) else (if lg_cmp ((j_X2_drawFor_F_vh1 vrow vdrawn vh1) ||| (j_X2_drawFor_G_vh2 vrow (j_X2_drawFor_F_vdrawn vdrawn) vh2)) 0 = 0 then j_X2_endGame_vw2 vw2 (vp1 + ((j_X2_worth vled 0) + (j_X2_worth x0 0))) vp2 else vw2))) else (if vg2 = 1 then (if (1 - (j_X2_takerBy vtr vled vmov x0)) = 0 then (if lg_cmp ((j_X2_drawFor_F_vh1 vrow (j_X2_drawFor_G_vdrawn vdrawn) vh1) ||| (j_X2_drawFor_G_vh2 vrow vdrawn vh2)) 0 = 0 then j_X2_endGame_vw2 vw2 vp1 (vp2 + ((j_X2_worth vled 1) + (j_X2_worth x0 1))) else vw2) else (if lg_cmp (vh1 ||| (j_X2_drawFor_G_vh2 vrow (j_X2_drawFor_G_vdrawn vdrawn) (j_X2_drawFor_G_vh2 vrow vdrawn vh2))) 0 = 0 then j_X2_endGame_vw2 vw2 vp1 (vp2 + ((j_X2_worth vled 1) + (j_X2_worth x0 1))) else vw2)) else (if (1 - (j_X2_takerBy vtr vled vmov x0)) = 0 then (if lg_cmp ((j_X2_drawFor_F_vh1 vrow (j_X2_drawFor_G_vdrawn vdrawn) vh1) ||| (j_X2_drawFor_G_vh2 vrow vdrawn vh2)) 0 = 0 then j_X2_endGame_vw2 vw2 vp1 (vp2 + ((j_X2_worth vled 0) + (j_X2_worth x0 0))) else vw2) else (if lg_cmp (vh1 ||| (j_X2_drawFor_G_vh2 vrow (j_X2_drawFor_G_vdrawn vdrawn) (j_X2_drawFor_G_vh2 vrow vdrawn vh2))) 0 = 0 then j_X2_endGame_vw2 vw2 vp1 (vp2 + ((j_X2_worth vled 0) + (j_X2_worth x0 0))) else vw2))))
def j_X2_finishTrick_vh1 (vrow : Nat → Int32) (vdrawn : Int32) (vtr : Int32) (vled : Int32) (vmov : Int32) (vh1 : Int64) (x0 : Int32) : Int64 := (if (j_X2_takerBy vtr vled vmov x0) = 0 then (if (1 - (j_X2_takerBy vtr vled vmov x0)) = 0 then j_X2_drawFor_F_vh1 vrow (j_X2_drawFor_F_vdrawn vdrawn) (j_X2_drawFor_F_vh1 vrow vdrawn vh1) else j_X2_drawFor_F_vh1 vrow vdrawn vh1) else (if (1 - (j_X2_takerBy vtr vled vmov x0)) = 0 then j_X2_drawFor_F_vh1 vrow (j_X2_drawFor_G_vdrawn vdrawn) vh1 else vh1))
def j_X2_finishTrick_vt1 (vtr : Int32) (vled : Int32) (vmov : Int32) (vt1 : Int64) (x0 : Int32) : Int64 := (if (j_X2_takerBy vtr vled vmov x0) = 0 then vt1 ||| ((j_X2_bit vled) ||| (j_X2_bit x0)) else vt1)
def j_X2_finishTrick_vp1 (vtr : Int32) (vled : Int32) (vmov : Int32) (vp1 : Int32) (vg1 : Int32) (x0 : Int32) : Int32 := (if (j_X2_takerBy vtr vled vmov x0) = 0 then (if vg1 = 1 then vp1 + ((j_X2_worth vled 1) + (j_X2_worth x0 1)) else vp1 + ((j_X2_worth vled 0) + (j_X2_worth x0 0))) else vp1)
def j_X2_finishTrick_vk1 (vtr : Int32) (vled : Int32) (vmov : Int32) (vk1 : Int32) (x0 : Int32) : Int32 := (if (j_X2_takerBy vtr vled vmov x0) = 0 then vk1 + 1 else vk1)
def j_X2_finishTrick_vg1 (vg1 : Int32) : Int32 := j_X0_loseWornGloves_vg vg1
def j_X2_finishTrick_vh2 (vrow : Nat → Int32) (vdrawn : Int32) (vtr : Int32) (vled : Int32) (vmov : Int32) (vh2 : Int64) (x0 : Int32) : Int64 := (if (j_X2_takerBy vtr vled vmov x0) = 0 then (if (1 - (j_X2_takerBy vtr vled vmov x0)) = 0 then vh2 else j_X2_drawFor_G_vh2 vrow (j_X2_drawFor_F_vdrawn vdrawn) vh2) else (if (1 - (j_X2_takerBy vtr vled vmov x0)) = 0 then j_X2_drawFor_G_vh2 vrow vdrawn vh2 else j_X2_drawFor_G_vh2 vrow (j_X2_drawFor_G_vdrawn vdrawn) (j_X2_drawFor_G_vh2 vrow vdrawn vh2)))
def j_X2_finishTrick_vt2 (vtr : Int32) (vled : Int32) (vmov : Int32) (vt2 : Int64) (x0 : Int32) : Int64 := (if (j_X2_takerBy vtr vled vmov x0) = 0 then vt2 else vt2 ||| ((j_X2_bit vled) ||| (j_X2_bit x0)))
def j_X2_finishTrick_vp2 (vtr : Int32) (vled : Int32) (vmov : Int32) (vp2 : Int32) (vg2 : Int32) (x0 : Int32) : Int32 := (if (j_X2_takerBy vtr vled vmov x0) = 0 then vp2 else (if vg2 = 1 then vp2 + ((j_X2_worth vled 1) + (j_X2_worth x0 1)) else vp2 + ((j_X2_worth vled 0) + (j_X2_worth x0 0))))
def j_X2_finishTrick_vk2 (vtr : Int32) (vled : Int32) (vmov : Int32) (vk2 : Int32) (x0 : Int32) : Int32 := (if (j_X2_takerBy vtr vled vmov x0) = 0 then vk2 else vk2 + 1)
def j_X2_finishTrick_vg2 (vg2 : Int32) : Int32 := j_X0_loseWornGloves_vg vg2
theorem inX2_finishTrick_X0 : ∀ w ∈ u_ws RX0 TX0 5, w ∈ wsX2_finishTrick := by decide +kernel
theorem inX2_finishTrick_X2 : ∀ w ∈ u_ws RX2 TX2 11, w ∈ wsX2_finishTrick := by decide +kernel
set_option maxRecDepth 100000 in
set_option maxHeartbeats 8000000 in
theorem c_X2_finishTrick {l : Launch} {D : va_G} (a0 : Nat) (aR : Nat) (aF : Nat) (aG : Nat) (cI : ClassId) (vrow : Nat → Int32) (vdrawn : Int32) (vtr : Int32) (vled : Int32) (vmov : Int32) (vw1 : Int32) (vw2 : Int32) (veo : Option Nat) (veb : Int32) (vh1 : Int64) (vt1 : Int64) (vp1 : Int32) (vk1 : Int32) (vg1 : Int32) (vh2 : Int64) (vt2 : Int64) (vp2 : Int32) (vk2 : Int32) (vg2 : Int32) (x0 : Int32) : jWi l yX2_finishTrick wsX2_finishTrick rX2_finishTrick D [.ref a0, .int x0] (jC a0 aR aF aG cI vrow vdrawn vtr vled vmov vw1 vw2 veo veb vh1 vt1 vp1 vk1 vg1 vh2 vt2 vp2 vk2 vg2) [(cI, .int)] (j_X2_finishTrick vtr vled vmov x0) (jC a0 aR aF aG cI vrow (j_X2_finishTrick_vdrawn vdrawn vtr vled vmov x0) vtr (j_X2_finishTrick_vled) (j_X2_finishTrick_vmov vrow vdrawn vtr vled vmov vh1 vh2 x0) (j_X2_finishTrick_vw1 vrow vdrawn vtr vled vmov vw1 vh1 vp1 vg1 vh2 vp2 vg2 x0) (j_X2_finishTrick_vw2 vrow vdrawn vtr vled vmov vw2 vh1 vp1 vg1 vh2 vp2 vg2 x0) veo veb (j_X2_finishTrick_vh1 vrow vdrawn vtr vled vmov vh1 x0) (j_X2_finishTrick_vt1 vtr vled vmov vt1 x0) (j_X2_finishTrick_vp1 vtr vled vmov vp1 vg1 x0) (j_X2_finishTrick_vk1 vtr vled vmov vk1 x0) (j_X2_finishTrick_vg1 vg1) (j_X2_finishTrick_vh2 vrow vdrawn vtr vled vmov vh2 x0) (j_X2_finishTrick_vt2 vtr vled vmov vt2 x0) (j_X2_finishTrick_vp2 vtr vled vmov vp2 vg2 x0) (j_X2_finishTrick_vk2 vtr vled vmov vk2 x0) (j_X2_finishTrick_vg2 vg2)) := by
  refine jW_of (QQ := fun A => (jQi D (j_X2_finishTrick vtr vled vmov x0) (jC a0 aR aF aG cI vrow (j_X2_finishTrick_vdrawn vdrawn vtr vled vmov x0) vtr (j_X2_finishTrick_vled) (j_X2_finishTrick_vmov vrow vdrawn vtr vled vmov vh1 vh2 x0) (j_X2_finishTrick_vw1 vrow vdrawn vtr vled vmov vw1 vh1 vp1 vg1 vh2 vp2 vg2 x0) (j_X2_finishTrick_vw2 vrow vdrawn vtr vled vmov vw2 vh1 vp1 vg1 vh2 vp2 vg2 x0) veo veb (j_X2_finishTrick_vh1 vrow vdrawn vtr vled vmov vh1 x0) (j_X2_finishTrick_vt1 vtr vled vmov vt1 x0) (j_X2_finishTrick_vp1 vtr vled vmov vp1 vg1 x0) (j_X2_finishTrick_vk1 vtr vled vmov vk1 x0) (j_X2_finishTrick_vg1 vg1) (j_X2_finishTrick_vh2 vrow vdrawn vtr vled vmov vh2 x0) (j_X2_finishTrick_vt2 vtr vled vmov vt2 x0) (j_X2_finishTrick_vp2 vtr vled vmov vp2 vg2 x0) (j_X2_finishTrick_vk2 vtr vled vmov vk2 x0) (j_X2_finishTrick_vg2 vg2)) [(cI, .int)] A)) (cc := cX2_finishTrick) (maxL := 5) (ret := (some .int)) (by decide) rfl (Nat.le_of_ble_eq_true rfl) ?_
  intro p e s m below meth c ls A S hr hlocks hini hP hK hN hD hS hA hl
  obtain ⟨hx, hb, hml, hown, hts⟩ := id S
  have hl : lv_has ls 5 [(0, .ref a0), (1, .int x0)] := hl
  refine lv_aload_n hx hb dX2_finishTrick_0 rfl (lv_at hl 0 rfl) ?_
  refine lv_iload_n hx hb dX2_finishTrick_1 rfl (lv_at hl 1 rfl) ?_
  refine jr_callV (n := 1) (C := RX2) (As := [.int x0]) (rest := []) S (c_X2_takerBy a0 aR aF aG cI vrow vdrawn vtr vled vmov vw1 vw2 veo veb vh1 vt1 vp1 vk1 vg1 vh2 vt2 vp2 vk2 vg2 x0) gX2_finishTrick_X2_takerBy rfl (by decide +kernel) rfl ⟨⟨rfl, rfl⟩, ⟨Nat.le_of_ble_eq_true rfl, Nat.le_of_ble_eq_true rfl⟩, Nat.le_of_ble_eq_true rfl, Nat.le_of_ble_eq_true rfl⟩ hP hK hN [0, 1, 2, 3] [0] rfl rfl 0 2 rfl rfl rfl (lv_nil hl) rfl (Nat.le_of_ble_eq_true rfl) dX2_finishTrick_2 ?_
  refine lv_istore_n (lv' := [(2, .int (j_X2_takerBy vtr vled vmov x0)), (0, .ref a0), (1, .int x0)]) hx hb dX2_finishTrick_5 rfl hl (by decide) rfl (fun ls hl => ?_)
  refine lv_aload_n hx hb dX2_finishTrick_6 rfl (lv_at hl 1 rfl) ?_
  refine lv_iload_n hx hb dX2_finishTrick_7 rfl (lv_at hl 0 rfl) ?_
  refine jr_callV (n := 1) (C := RX2) (As := [.int (j_X2_takerBy vtr vled vmov x0)]) (rest := []) S (c_X2_archivist a0 aR aF aG cI vrow vdrawn vtr vled vmov vw1 vw2 veo veb vh1 vt1 vp1 vk1 vg1 vh2 vt2 vp2 vk2 vg2 (j_X2_takerBy vtr vled vmov x0)) gX2_finishTrick_X2_archivist rfl (by decide +kernel) rfl ⟨⟨rfl, rfl⟩, ⟨Nat.le_of_ble_eq_true rfl, Nat.le_of_ble_eq_true rfl⟩, Nat.le_of_ble_eq_true rfl, Nat.le_of_ble_eq_true rfl⟩ hP hK hN [0, 1, 2, 3] [0] rfl rfl 0 2 rfl rfl rfl (lv_nil hl) rfl (Nat.le_of_ble_eq_true rfl) dX2_finishTrick_8 ?_
  refine jr_ite (c0 := (j_X2_takerBy vtr vled vmov x0) = 0) (a := aF) (b := aG) rfl (fun c_1 => ?_) (fun c_1 => ?_)
  · skip
    refine lv_astore_n (lv' := [(3, .ref aF), (2, .int (j_X2_takerBy vtr vled vmov x0)), (0, .ref a0), (1, .int x0)]) hx hb dX2_finishTrick_11 rfl hl (by decide) rfl (fun ls hl => ?_)
    refine lv_aload_n hx hb dX2_finishTrick_12 rfl (lv_at hl 0 rfl) ?_
    refine va_get (D := D) (ci := 0) (v := .int vg1) (C := RX0) (T := TX0) (N := 5) hx hb hts inX2_finishTrick_X0 hown hK hP 1 rfl rfl 4 (by decide) (hts (.fieldLink RX2 105 "ArchivistTricks$Archivist" "gloves" "I") (by decide +kernel)) (fun _ h9 => h9) rfl dX2_finishTrick_13 ?_
    refine lv_iconst (v := 1) hx hb dX2_finishTrick_16 (by decide) ?_
    refine lv_icmp_ne (tgt := 24) hx hb dX2_finishTrick_17 (by decide) (fun c_2 => ?_) (fun c_2 => ?_)
    · skip
      refine lv_iconst (v := 0) hx hb dX2_finishTrick_24 (by decide) ?_
      refine lv_istore (lv' := [(4, .int 0), (3, .ref aF), (2, .int (j_X2_takerBy vtr vled vmov x0)), (0, .ref a0), (1, .int x0)]) hx hb dX2_finishTrick_25 hl (by decide) rfl (fun ls hl => ?_)
      refine lv_aload_n hx hb dX2_finishTrick_27 rfl (lv_at hl 1 rfl) ?_
      refine lv_dup hx hb dX2_finishTrick_28 rfl ?_
      refine va_get (D := D) (ci := 0) (v := .int vp1) (C := RX0) (T := TX0) (N := 5) hx hb hts inX2_finishTrick_X0 hown hK hP 1 rfl rfl 2 (by decide) (hts (.fieldLink RX2 133 "ArchivistTricks$Archivist" "points" "I") (by decide +kernel)) (fun _ h9 => h9) rfl dX2_finishTrick_29 ?_
      refine lv_aload_n hx hb dX2_finishTrick_32 rfl (lv_at hl 3 rfl) ?_
      refine va_get (D := D) (ci := 2) (v := .int vled) (C := RX2) (T := TX2) (N := 11) hx hb hts inX2_finishTrick_X2 hown hK hP 0 rfl rfl 5 (by decide) (hts (.fieldLink RX2 30 "ArchivistTricks" "ledCard" "I") (by decide +kernel)) (fun _ h9 => h9) rfl dX2_finishTrick_33 ?_
      refine lv_iload hx hb dX2_finishTrick_36 (lv_at hl 0 rfl) ?_
      refine jr_callS (n := 2) (As := [.int vled, .int 0]) (rest := [.int vp1, .ref aF]) S (c_X2_worth vled 0) gX2_finishTrick_X2_worth rfl (by decide +kernel) rfl ⟨⟨rfl, rfl⟩, ⟨Nat.le_of_ble_eq_true rfl, Nat.le_of_ble_eq_true rfl⟩, Nat.le_of_ble_eq_true rfl, Nat.le_of_ble_eq_true rfl⟩ hP hK hN [] [] rfl rfl (lv_nil hl) rfl (Nat.le_of_ble_eq_true rfl) dX2_finishTrick_38 ?_
      refine lv_iload_n hx hb dX2_finishTrick_41 rfl (lv_at hl 4 rfl) ?_
      refine lv_iload hx hb dX2_finishTrick_42 (lv_at hl 0 rfl) ?_
      refine jr_callS (n := 2) (As := [.int x0, .int 0]) (rest := [.int (j_X2_worth vled 0), .int vp1, .ref aF]) S (c_X2_worth x0 0) gX2_finishTrick_X2_worth rfl (by decide +kernel) rfl ⟨⟨rfl, rfl⟩, ⟨Nat.le_of_ble_eq_true rfl, Nat.le_of_ble_eq_true rfl⟩, Nat.le_of_ble_eq_true rfl, Nat.le_of_ble_eq_true rfl⟩ hP hK hN [] [] rfl rfl (lv_nil hl) rfl (Nat.le_of_ble_eq_true rfl) dX2_finishTrick_44 ?_
      refine lv_iadd hx hb dX2_finishTrick_47 ?_
      refine lv_iadd hx hb dX2_finishTrick_48 ?_
      refine va_put (D := D) (ci := 0) (v := .int (vp1 + ((j_X2_worth vled 0) + (j_X2_worth x0 0)))) (ty := .int) (C := RX0) (T := TX0) (N := 5) hx hb hts inX2_finishTrick_X0 tyX0 tyX0_ok nmX0 hown hK hP hD hS 1 rfl rfl 2 (by decide) (hts (.fieldLink RX2 133 "ArchivistTricks$Archivist" "points" "I") (by decide +kernel)) (fun _ h9 => h9) rfl (by decide +kernel) rfl rfl (Nat.le_of_ble_eq_true rfl) dX2_finishTrick_49 (fun H locs hP hD hS => ?_)
      have hP : va_P D vwCl [(a0, .inr (2, [.ref aR, .ref aF, .ref aG, .int vdrawn, .int vtr, .int vled, .int vmov, .int vw1, .int vw2, va_rf veo, .int veb])), (aF, .inr (0, [.long vh1, .long vt1, .int (vp1 + ((j_X2_worth vled 0) + (j_X2_worth x0 0))), .int vk1, .int vg1])), (aG, .inr (0, [.long vh2, .long vt2, .int vp2, .int vk2, .int vg2])), (aR, .inl (cI, 42, .inl vrow))] H := hP
      have hD : va_D A [(a0, .inr (2, [.ref aR, .ref aF, .ref aG, .int vdrawn, .int vtr, .int vled, .int vmov, .int vw1, .int vw2, va_rf veo, .int veb])), (aF, .inr (0, [.long vh1, .long vt1, .int (vp1 + ((j_X2_worth vled 0) + (j_X2_worth x0 0))), .int vk1, .int vg1])), (aG, .inr (0, [.long vh2, .long vt2, .int vp2, .int vk2, .int vg2])), (aR, .inl (cI, 42, .inl vrow))] := hD
      refine lv_aload_n hx hb dX2_finishTrick_52 rfl (lv_at hl 1 rfl) ?_
      refine lv_dup hx hb dX2_finishTrick_53 rfl ?_
      refine va_get (D := D) (ci := 0) (v := .int vk1) (C := RX0) (T := TX0) (N := 5) hx hb hts inX2_finishTrick_X0 hown hK hP 1 rfl rfl 3 (by decide) (hts (.fieldLink RX2 136 "ArchivistTricks$Archivist" "tricks" "I") (by decide +kernel)) (fun _ h9 => h9) rfl dX2_finishTrick_54 ?_
      refine lv_iconst (v := 1) hx hb dX2_finishTrick_57 (by decide) ?_
      refine lv_iadd hx hb dX2_finishTrick_58 ?_
      refine va_put (D := D) (ci := 0) (v := .int (vk1 + 1)) (ty := .int) (C := RX0) (T := TX0) (N := 5) hx hb hts inX2_finishTrick_X0 tyX0 tyX0_ok nmX0 hown hK hP hD hS 1 rfl rfl 3 (by decide) (hts (.fieldLink RX2 136 "ArchivistTricks$Archivist" "tricks" "I") (by decide +kernel)) (fun _ h9 => h9) rfl (by decide +kernel) rfl rfl (Nat.le_of_ble_eq_true rfl) dX2_finishTrick_59 (fun H locs hP hD hS => ?_)
      have hP : va_P D vwCl [(a0, .inr (2, [.ref aR, .ref aF, .ref aG, .int vdrawn, .int vtr, .int vled, .int vmov, .int vw1, .int vw2, va_rf veo, .int veb])), (aF, .inr (0, [.long vh1, .long vt1, .int (vp1 + ((j_X2_worth vled 0) + (j_X2_worth x0 0))), .int (vk1 + 1), .int vg1])), (aG, .inr (0, [.long vh2, .long vt2, .int vp2, .int vk2, .int vg2])), (aR, .inl (cI, 42, .inl vrow))] H := hP
      have hD : va_D A [(a0, .inr (2, [.ref aR, .ref aF, .ref aG, .int vdrawn, .int vtr, .int vled, .int vmov, .int vw1, .int vw2, va_rf veo, .int veb])), (aF, .inr (0, [.long vh1, .long vt1, .int (vp1 + ((j_X2_worth vled 0) + (j_X2_worth x0 0))), .int (vk1 + 1), .int vg1])), (aG, .inr (0, [.long vh2, .long vt2, .int vp2, .int vk2, .int vg2])), (aR, .inl (cI, 42, .inl vrow))] := hD
      refine lv_aload_n hx hb dX2_finishTrick_62 rfl (lv_at hl 1 rfl) ?_
      refine lv_dup hx hb dX2_finishTrick_63 rfl ?_
      refine va_get (D := D) (ci := 0) (v := .long vt1) (C := RX0) (T := TX0) (N := 5) hx hb hts inX2_finishTrick_X0 hown hK hP 1 rfl rfl 1 (by decide) (hts (.fieldLink RX2 130 "ArchivistTricks$Archivist" "taken" "J") (by decide +kernel)) (fun _ h9 => h9) rfl dX2_finishTrick_64 ?_
      refine lv_aload_n hx hb dX2_finishTrick_67 rfl (lv_at hl 3 rfl) ?_
      refine va_get (D := D) (ci := 2) (v := .int vled) (C := RX2) (T := TX2) (N := 11) hx hb hts inX2_finishTrick_X2 hown hK hP 0 rfl rfl 5 (by decide) (hts (.fieldLink RX2 30 "ArchivistTricks" "ledCard" "I") (by decide +kernel)) (fun _ h9 => h9) rfl dX2_finishTrick_68 ?_
      refine jr_callS (n := 1) (As := [.int vled]) (rest := [.long vt1, .ref aF]) S (c_X2_bit vled) gX2_finishTrick_X2_bit rfl (by decide +kernel) rfl ⟨⟨rfl, rfl⟩, ⟨Nat.le_of_ble_eq_true rfl, Nat.le_of_ble_eq_true rfl⟩, Nat.le_of_ble_eq_true rfl, Nat.le_of_ble_eq_true rfl⟩ hP hK hN [] [] rfl rfl (lv_nil hl) rfl (Nat.le_of_ble_eq_true rfl) dX2_finishTrick_71 ?_
      refine lv_iload_n hx hb dX2_finishTrick_74 rfl (lv_at hl 4 rfl) ?_
      refine jr_callS (n := 1) (As := [.int x0]) (rest := [.long (j_X2_bit vled), .long vt1, .ref aF]) S (c_X2_bit x0) gX2_finishTrick_X2_bit rfl (by decide +kernel) rfl ⟨⟨rfl, rfl⟩, ⟨Nat.le_of_ble_eq_true rfl, Nat.le_of_ble_eq_true rfl⟩, Nat.le_of_ble_eq_true rfl, Nat.le_of_ble_eq_true rfl⟩ hP hK hN [] [] rfl rfl (lv_nil hl) rfl (Nat.le_of_ble_eq_true rfl) dX2_finishTrick_75 ?_
      refine lv_lor hx hb dX2_finishTrick_78 ?_
      refine lv_lor hx hb dX2_finishTrick_79 ?_
      refine va_put (D := D) (ci := 0) (v := .long (vt1 ||| ((j_X2_bit vled) ||| (j_X2_bit x0)))) (ty := .long) (C := RX0) (T := TX0) (N := 5) hx hb hts inX2_finishTrick_X0 tyX0 tyX0_ok nmX0 hown hK hP hD hS 1 rfl rfl 1 (by decide) (hts (.fieldLink RX2 130 "ArchivistTricks$Archivist" "taken" "J") (by decide +kernel)) (fun _ h9 => h9) rfl (by decide +kernel) rfl rfl (Nat.le_of_ble_eq_true rfl) dX2_finishTrick_80 (fun H locs hP hD hS => ?_)
      have hP : va_P D vwCl [(a0, .inr (2, [.ref aR, .ref aF, .ref aG, .int vdrawn, .int vtr, .int vled, .int vmov, .int vw1, .int vw2, va_rf veo, .int veb])), (aF, .inr (0, [.long vh1, .long (vt1 ||| ((j_X2_bit vled) ||| (j_X2_bit x0))), .int (vp1 + ((j_X2_worth vled 0) + (j_X2_worth x0 0))), .int (vk1 + 1), .int vg1])), (aG, .inr (0, [.long vh2, .long vt2, .int vp2, .int vk2, .int vg2])), (aR, .inl (cI, 42, .inl vrow))] H := hP
      have hD : va_D A [(a0, .inr (2, [.ref aR, .ref aF, .ref aG, .int vdrawn, .int vtr, .int vled, .int vmov, .int vw1, .int vw2, va_rf veo, .int veb])), (aF, .inr (0, [.long vh1, .long (vt1 ||| ((j_X2_bit vled) ||| (j_X2_bit x0))), .int (vp1 + ((j_X2_worth vled 0) + (j_X2_worth x0 0))), .int (vk1 + 1), .int vg1])), (aG, .inr (0, [.long vh2, .long vt2, .int vp2, .int vk2, .int vg2])), (aR, .inl (cI, 42, .inl vrow))] := hD
      refine lv_aload_n hx hb dX2_finishTrick_83 rfl (lv_at hl 3 rfl) ?_
      refine va_get (D := D) (ci := 2) (v := .ref aF) (C := RX2) (T := TX2) (N := 11) hx hb hts inX2_finishTrick_X2 hown hK hP 0 rfl rfl 1 (by decide) (hts (.fieldLink RX2 16 "ArchivistTricks" "first" "LArchivistTricks$Archivist;") (by decide +kernel)) (fun _ h9 => h9) rfl dX2_finishTrick_84 ?_
      refine jw_callVv (n := 0) (C := RX0) (As := []) (rest := []) (wr := [(a0, .inr (2, [.ref aR, .ref aF, .ref aG, .int vdrawn, .int vtr, .int vled, .int vmov, .int vw1, .int vw2, va_rf veo, .int veb])), (aG, .inr (0, [.long vh2, .long vt2, .int vp2, .int vk2, .int vg2])), (aR, .inl (cI, 42, .inl vrow))]) (wn := [(a0, .inr (2, [.ref aR, .ref aF, .ref aG, .int vdrawn, .int vtr, .int vled, .int vmov, .int vw1, .int vw2, va_rf veo, .int veb])), (aF, .inr (0, [.long vh1, .long (vt1 ||| ((j_X2_bit vled) ||| (j_X2_bit x0))), .int (vp1 + ((j_X2_worth vled 0) + (j_X2_worth x0 0))), .int (vk1 + 1), .int (j_X0_loseWornGloves_vg vg1)])), (aG, .inr (0, [.long vh2, .long vt2, .int vp2, .int vk2, .int vg2])), (aR, .inl (cI, 42, .inl vrow))]) S (c_X0_loseWornGloves aF vh1 (vt1 ||| ((j_X2_bit vled) ||| (j_X2_bit x0))) (vp1 + ((j_X2_worth vled 0) + (j_X2_worth x0 0))) (vk1 + 1) vg1) gX2_finishTrick_X0_loseWornGloves rfl (by decide +kernel) rfl ⟨⟨rfl, rfl⟩, ⟨Nat.le_of_ble_eq_true rfl, Nat.le_of_ble_eq_true rfl⟩, Nat.le_of_ble_eq_true rfl, Nat.le_of_ble_eq_true rfl⟩ hP hK hN hD hS hA [1] [0, 2, 3] [0, 3, 1, 2] [] rfl rfl ⟨rfl, rfl, rfl⟩ (by decide) rfl rfl 0 0 rfl rfl rfl (lv_nil hl) rfl (Nat.le_of_ble_eq_true rfl) dX2_finishTrick_87 (fun H locs hP hD hS => ?_)
      refine lv_aload_n hx hb dX2_finishTrick_90 rfl (lv_at hl 3 rfl) ?_
      refine va_get (D := D) (ci := 2) (v := .ref aG) (C := RX2) (T := TX2) (N := 11) hx hb hts inX2_finishTrick_X2 hown hK hP 0 rfl rfl 2 (by decide) (hts (.fieldLink RX2 20 "ArchivistTricks" "second" "LArchivistTricks$Archivist;") (by decide +kernel)) (fun _ h9 => h9) rfl dX2_finishTrick_91 ?_
      refine jw_callVv (n := 0) (C := RX0) (As := []) (rest := []) (wr := [(a0, .inr (2, [.ref aR, .ref aF, .ref aG, .int vdrawn, .int vtr, .int vled, .int vmov, .int vw1, .int vw2, va_rf veo, .int veb])), (aF, .inr (0, [.long vh1, .long (vt1 ||| ((j_X2_bit vled) ||| (j_X2_bit x0))), .int (vp1 + ((j_X2_worth vled 0) + (j_X2_worth x0 0))), .int (vk1 + 1), .int (j_X0_loseWornGloves_vg vg1)])), (aR, .inl (cI, 42, .inl vrow))]) (wn := [(a0, .inr (2, [.ref aR, .ref aF, .ref aG, .int vdrawn, .int vtr, .int vled, .int vmov, .int vw1, .int vw2, va_rf veo, .int veb])), (aF, .inr (0, [.long vh1, .long (vt1 ||| ((j_X2_bit vled) ||| (j_X2_bit x0))), .int (vp1 + ((j_X2_worth vled 0) + (j_X2_worth x0 0))), .int (vk1 + 1), .int (j_X0_loseWornGloves_vg vg1)])), (aG, .inr (0, [.long vh2, .long vt2, .int vp2, .int vk2, .int (j_X0_loseWornGloves_vg vg2)])), (aR, .inl (cI, 42, .inl vrow))]) S (c_X0_loseWornGloves aG vh2 vt2 vp2 vk2 vg2) gX2_finishTrick_X0_loseWornGloves rfl (by decide +kernel) rfl ⟨⟨rfl, rfl⟩, ⟨Nat.le_of_ble_eq_true rfl, Nat.le_of_ble_eq_true rfl⟩, Nat.le_of_ble_eq_true rfl, Nat.le_of_ble_eq_true rfl⟩ hP hK hN hD hS hA [2] [0, 1, 3] [0, 1, 3, 2] [] rfl rfl ⟨rfl, rfl, rfl⟩ (by decide) rfl rfl 0 0 rfl rfl rfl (lv_nil hl) rfl (Nat.le_of_ble_eq_true rfl) dX2_finishTrick_94 (fun H locs hP hD hS => ?_)
      refine lv_aload_n hx hb dX2_finishTrick_97 rfl (lv_at hl 3 rfl) ?_
      refine lv_iconst (v := (-1)) hx hb dX2_finishTrick_98 (by decide) ?_
      refine va_put (D := D) (ci := 2) (v := .int (-1)) (ty := .int) (C := RX2) (T := TX2) (N := 11) hx hb hts inX2_finishTrick_X2 tyX2 tyX2_ok nmX2 hown hK hP hD hS 0 rfl rfl 5 (by decide) (hts (.fieldLink RX2 30 "ArchivistTricks" "ledCard" "I") (by decide +kernel)) (fun _ h9 => h9) rfl (by decide +kernel) rfl rfl (Nat.le_of_ble_eq_true rfl) dX2_finishTrick_99 (fun H locs hP hD hS => ?_)
      have hP : va_P D vwCl [(a0, .inr (2, [.ref aR, .ref aF, .ref aG, .int vdrawn, .int vtr, .int (-1), .int vmov, .int vw1, .int vw2, va_rf veo, .int veb])), (aF, .inr (0, [.long vh1, .long (vt1 ||| ((j_X2_bit vled) ||| (j_X2_bit x0))), .int (vp1 + ((j_X2_worth vled 0) + (j_X2_worth x0 0))), .int (vk1 + 1), .int (j_X0_loseWornGloves_vg vg1)])), (aG, .inr (0, [.long vh2, .long vt2, .int vp2, .int vk2, .int (j_X0_loseWornGloves_vg vg2)])), (aR, .inl (cI, 42, .inl vrow))] H := hP
      have hD : va_D A [(a0, .inr (2, [.ref aR, .ref aF, .ref aG, .int vdrawn, .int vtr, .int (-1), .int vmov, .int vw1, .int vw2, va_rf veo, .int veb])), (aF, .inr (0, [.long vh1, .long (vt1 ||| ((j_X2_bit vled) ||| (j_X2_bit x0))), .int (vp1 + ((j_X2_worth vled 0) + (j_X2_worth x0 0))), .int (vk1 + 1), .int (j_X0_loseWornGloves_vg vg1)])), (aG, .inr (0, [.long vh2, .long vt2, .int vp2, .int vk2, .int (j_X0_loseWornGloves_vg vg2)])), (aR, .inl (cI, 42, .inl vrow))] := hD
      refine lv_aload_n hx hb dX2_finishTrick_102 rfl (lv_at hl 3 rfl) ?_
      refine lv_aload_n hx hb dX2_finishTrick_103 rfl (lv_at hl 1 rfl) ?_
      refine jw_callVv (n := 1) (C := RX2) (As := [.ref aF]) (rest := []) (wr := []) (wn := [(a0, .inr (2, [.ref aR, .ref aF, .ref aG, .int (j_X2_drawFor_F_vdrawn vdrawn), .int vtr, .int (-1), .int vmov, .int vw1, .int vw2, va_rf veo, .int veb])), (aF, .inr (0, [.long (j_X2_drawFor_F_vh1 vrow vdrawn vh1), .long (vt1 ||| ((j_X2_bit vled) ||| (j_X2_bit x0))), .int (vp1 + ((j_X2_worth vled 0) + (j_X2_worth x0 0))), .int (vk1 + 1), .int (j_X0_loseWornGloves_vg vg1)])), (aG, .inr (0, [.long vh2, .long vt2, .int vp2, .int vk2, .int (j_X0_loseWornGloves_vg vg2)])), (aR, .inl (cI, 42, .inl vrow))]) S (c_X2_drawFor_F a0 aR aF aG cI vrow vdrawn vtr (-1) vmov vw1 vw2 veo veb vh1 (vt1 ||| ((j_X2_bit vled) ||| (j_X2_bit x0))) (vp1 + ((j_X2_worth vled 0) + (j_X2_worth x0 0))) (vk1 + 1) (j_X0_loseWornGloves_vg vg1) vh2 vt2 vp2 vk2 (j_X0_loseWornGloves_vg vg2)) gX2_finishTrick_X2_drawFor rfl (by decide +kernel) rfl ⟨⟨rfl, rfl⟩, ⟨Nat.le_of_ble_eq_true rfl, Nat.le_of_ble_eq_true rfl⟩, Nat.le_of_ble_eq_true rfl, Nat.le_of_ble_eq_true rfl⟩ hP hK hN hD hS hA [0, 1, 2, 3] [] [0, 1, 2, 3] [0] rfl rfl ⟨rfl, rfl, rfl⟩ (by decide) rfl rfl 0 2 rfl rfl rfl (lv_nil hl) rfl (Nat.le_of_ble_eq_true rfl) dX2_finishTrick_104 (fun H locs hP hD hS => ?_)
      refine lv_aload_n hx hb dX2_finishTrick_107 rfl (lv_at hl 3 rfl) ?_
      refine lv_aload_n hx hb dX2_finishTrick_108 rfl (lv_at hl 3 rfl) ?_
      refine lv_iconst (v := 1) hx hb dX2_finishTrick_109 (by decide) ?_
      refine lv_iload_n hx hb dX2_finishTrick_110 rfl (lv_at hl 2 rfl) ?_
      refine lv_isub hx hb dX2_finishTrick_111 ?_
      refine jr_callV (n := 1) (C := RX2) (As := [.int (1 - (j_X2_takerBy vtr vled vmov x0))]) (rest := [.ref a0]) S (c_X2_archivist a0 aR aF aG cI vrow (j_X2_drawFor_F_vdrawn vdrawn) vtr (-1) vmov vw1 vw2 veo veb (j_X2_drawFor_F_vh1 vrow vdrawn vh1) (vt1 ||| ((j_X2_bit vled) ||| (j_X2_bit x0))) (vp1 + ((j_X2_worth vled 0) + (j_X2_worth x0 0))) (vk1 + 1) (j_X0_loseWornGloves_vg vg1) vh2 vt2 vp2 vk2 (j_X0_loseWornGloves_vg vg2) (1 - (j_X2_takerBy vtr vled vmov x0))) gX2_finishTrick_X2_archivist rfl (by decide +kernel) rfl ⟨⟨rfl, rfl⟩, ⟨Nat.le_of_ble_eq_true rfl, Nat.le_of_ble_eq_true rfl⟩, Nat.le_of_ble_eq_true rfl, Nat.le_of_ble_eq_true rfl⟩ hP hK hN [0, 1, 2, 3] [0] rfl rfl 0 2 rfl rfl rfl (lv_nil hl) rfl (Nat.le_of_ble_eq_true rfl) dX2_finishTrick_112 ?_
      refine jr_ite (c0 := (1 - (j_X2_takerBy vtr vled vmov x0)) = 0) (a := aF) (b := aG) rfl (fun c_3 => ?_) (fun c_3 => ?_)
      · skip
        refine jw_callVv (n := 1) (C := RX2) (As := [.ref aF]) (rest := []) (wr := []) (wn := [(a0, .inr (2, [.ref aR, .ref aF, .ref aG, .int (j_X2_drawFor_F_vdrawn (j_X2_drawFor_F_vdrawn vdrawn)), .int vtr, .int (-1), .int vmov, .int vw1, .int vw2, va_rf veo, .int veb])), (aF, .inr (0, [.long (j_X2_drawFor_F_vh1 vrow (j_X2_drawFor_F_vdrawn vdrawn) (j_X2_drawFor_F_vh1 vrow vdrawn vh1)), .long (vt1 ||| ((j_X2_bit vled) ||| (j_X2_bit x0))), .int (vp1 + ((j_X2_worth vled 0) + (j_X2_worth x0 0))), .int (vk1 + 1), .int (j_X0_loseWornGloves_vg vg1)])), (aG, .inr (0, [.long vh2, .long vt2, .int vp2, .int vk2, .int (j_X0_loseWornGloves_vg vg2)])), (aR, .inl (cI, 42, .inl vrow))]) S (c_X2_drawFor_F a0 aR aF aG cI vrow (j_X2_drawFor_F_vdrawn vdrawn) vtr (-1) vmov vw1 vw2 veo veb (j_X2_drawFor_F_vh1 vrow vdrawn vh1) (vt1 ||| ((j_X2_bit vled) ||| (j_X2_bit x0))) (vp1 + ((j_X2_worth vled 0) + (j_X2_worth x0 0))) (vk1 + 1) (j_X0_loseWornGloves_vg vg1) vh2 vt2 vp2 vk2 (j_X0_loseWornGloves_vg vg2)) gX2_finishTrick_X2_drawFor rfl (by decide +kernel) rfl ⟨⟨rfl, rfl⟩, ⟨Nat.le_of_ble_eq_true rfl, Nat.le_of_ble_eq_true rfl⟩, Nat.le_of_ble_eq_true rfl, Nat.le_of_ble_eq_true rfl⟩ hP hK hN hD hS hA [0, 1, 2, 3] [] [0, 1, 2, 3] [0] rfl rfl ⟨rfl, rfl, rfl⟩ (by decide) rfl rfl 0 2 rfl rfl rfl (lv_nil hl) rfl (Nat.le_of_ble_eq_true rfl) dX2_finishTrick_115 (fun H locs hP hD hS => ?_)
        refine lv_aload_n hx hb dX2_finishTrick_118 rfl (lv_at hl 3 rfl) ?_
        refine lv_iload_n hx hb dX2_finishTrick_119 rfl (lv_at hl 2 rfl) ?_
        refine va_put (D := D) (ci := 2) (v := .int (j_X2_takerBy vtr vled vmov x0)) (ty := .int) (C := RX2) (T := TX2) (N := 11) hx hb hts inX2_finishTrick_X2 tyX2 tyX2_ok nmX2 hown hK hP hD hS 0 rfl rfl 6 (by decide) (hts (.fieldLink RX2 33 "ArchivistTricks" "mover" "I") (by decide +kernel)) (fun _ h9 => h9) rfl (by decide +kernel) rfl rfl (Nat.le_of_ble_eq_true rfl) dX2_finishTrick_120 (fun H locs hP hD hS => ?_)
        have hP : va_P D vwCl [(a0, .inr (2, [.ref aR, .ref aF, .ref aG, .int (j_X2_drawFor_F_vdrawn (j_X2_drawFor_F_vdrawn vdrawn)), .int vtr, .int (-1), .int (j_X2_takerBy vtr vled vmov x0), .int vw1, .int vw2, va_rf veo, .int veb])), (aF, .inr (0, [.long (j_X2_drawFor_F_vh1 vrow (j_X2_drawFor_F_vdrawn vdrawn) (j_X2_drawFor_F_vh1 vrow vdrawn vh1)), .long (vt1 ||| ((j_X2_bit vled) ||| (j_X2_bit x0))), .int (vp1 + ((j_X2_worth vled 0) + (j_X2_worth x0 0))), .int (vk1 + 1), .int (j_X0_loseWornGloves_vg vg1)])), (aG, .inr (0, [.long vh2, .long vt2, .int vp2, .int vk2, .int (j_X0_loseWornGloves_vg vg2)])), (aR, .inl (cI, 42, .inl vrow))] H := hP
        have hD : va_D A [(a0, .inr (2, [.ref aR, .ref aF, .ref aG, .int (j_X2_drawFor_F_vdrawn (j_X2_drawFor_F_vdrawn vdrawn)), .int vtr, .int (-1), .int (j_X2_takerBy vtr vled vmov x0), .int vw1, .int vw2, va_rf veo, .int veb])), (aF, .inr (0, [.long (j_X2_drawFor_F_vh1 vrow (j_X2_drawFor_F_vdrawn vdrawn) (j_X2_drawFor_F_vh1 vrow vdrawn vh1)), .long (vt1 ||| ((j_X2_bit vled) ||| (j_X2_bit x0))), .int (vp1 + ((j_X2_worth vled 0) + (j_X2_worth x0 0))), .int (vk1 + 1), .int (j_X0_loseWornGloves_vg vg1)])), (aG, .inr (0, [.long vh2, .long vt2, .int vp2, .int vk2, .int (j_X0_loseWornGloves_vg vg2)])), (aR, .inl (cI, 42, .inl vrow))] := hD
        refine lv_aload_n hx hb dX2_finishTrick_123 rfl (lv_at hl 3 rfl) ?_
        refine va_get (D := D) (ci := 2) (v := .ref aF) (C := RX2) (T := TX2) (N := 11) hx hb hts inX2_finishTrick_X2 hown hK hP 0 rfl rfl 1 (by decide) (hts (.fieldLink RX2 16 "ArchivistTricks" "first" "LArchivistTricks$Archivist;") (by decide +kernel)) (fun _ h9 => h9) rfl dX2_finishTrick_124 ?_
        refine va_get (D := D) (ci := 0) (v := .long (j_X2_drawFor_F_vh1 vrow (j_X2_drawFor_F_vdrawn vdrawn) (j_X2_drawFor_F_vh1 vrow vdrawn vh1))) (C := RX0) (T := TX0) (N := 5) hx hb hts inX2_finishTrick_X0 hown hK hP 1 rfl rfl 0 (by decide) (hts (.fieldLink RX2 91 "ArchivistTricks$Archivist" "hand" "J") (by decide +kernel)) (fun _ h9 => h9) rfl dX2_finishTrick_127 ?_
        refine lv_aload_n hx hb dX2_finishTrick_130 rfl (lv_at hl 3 rfl) ?_
        refine va_get (D := D) (ci := 2) (v := .ref aG) (C := RX2) (T := TX2) (N := 11) hx hb hts inX2_finishTrick_X2 hown hK hP 0 rfl rfl 2 (by decide) (hts (.fieldLink RX2 20 "ArchivistTricks" "second" "LArchivistTricks$Archivist;") (by decide +kernel)) (fun _ h9 => h9) rfl dX2_finishTrick_131 ?_
        refine va_get (D := D) (ci := 0) (v := .long vh2) (C := RX0) (T := TX0) (N := 5) hx hb hts inX2_finishTrick_X0 hown hK hP 2 rfl rfl 0 (by decide) (hts (.fieldLink RX2 91 "ArchivistTricks$Archivist" "hand" "J") (by decide +kernel)) (fun _ h9 => h9) rfl dX2_finishTrick_134 ?_
        refine lv_lor hx hb dX2_finishTrick_137 ?_
        refine lv_lconst (v := 0) hx hb dX2_finishTrick_138 (by decide) ?_
        refine W.lcmp hx hb dX2_finishTrick_139 ?_
        refine lv_if_ne (tgt := 147) hx hb dX2_finishTrick_140 (by decide) (fun c_4 => ?_) (fun c_4 => ?_)
        · skip
          refine lv_iload_n hx hb dX2_finishTrick_147 rfl (lv_at hl 2 rfl) ?_
          exact jw_iret hx hb hr hlocks hK hP hD hS dX2_finishTrick_148 (by  simp only [j_X2_finishTrick, if_pos c_1, if_neg c_2, if_pos c_3, if_neg c_4]) (by  simp only [j_X2_finishTrick_vdrawn, j_X2_finishTrick_vled, j_X2_finishTrick_vmov, j_X2_finishTrick_vw1, j_X2_finishTrick_vw2, j_X2_finishTrick_vh1, j_X2_finishTrick_vt1, j_X2_finishTrick_vp1, j_X2_finishTrick_vk1, j_X2_finishTrick_vg1, j_X2_finishTrick_vh2, j_X2_finishTrick_vt2, j_X2_finishTrick_vp2, j_X2_finishTrick_vk2, j_X2_finishTrick_vg2, if_pos c_1, if_neg c_2, if_pos c_3, if_neg c_4])
        · skip
          refine lv_aload_n hx hb dX2_finishTrick_143 rfl (lv_at hl 3 rfl) ?_
          refine jw_callVv (n := 0) (C := RX2) (As := []) (rest := []) (wr := []) (wn := [(a0, .inr (2, [.ref aR, .ref aF, .ref aG, .int (j_X2_drawFor_F_vdrawn (j_X2_drawFor_F_vdrawn vdrawn)), .int vtr, .int (-1), .int j_X2_endGame_vmov, .int (j_X2_endGame_vw1 vw1 (vp1 + ((j_X2_worth vled 0) + (j_X2_worth x0 0))) vp2), .int (j_X2_endGame_vw2 vw2 (vp1 + ((j_X2_worth vled 0) + (j_X2_worth x0 0))) vp2), va_rf veo, .int veb])), (aF, .inr (0, [.long (j_X2_drawFor_F_vh1 vrow (j_X2_drawFor_F_vdrawn vdrawn) (j_X2_drawFor_F_vh1 vrow vdrawn vh1)), .long (vt1 ||| ((j_X2_bit vled) ||| (j_X2_bit x0))), .int (vp1 + ((j_X2_worth vled 0) + (j_X2_worth x0 0))), .int (vk1 + 1), .int (j_X0_loseWornGloves_vg vg1)])), (aG, .inr (0, [.long vh2, .long vt2, .int vp2, .int vk2, .int (j_X0_loseWornGloves_vg vg2)])), (aR, .inl (cI, 42, .inl vrow))]) S (c_X2_endGame a0 aR aF aG cI vrow (j_X2_drawFor_F_vdrawn (j_X2_drawFor_F_vdrawn vdrawn)) vtr (-1) (j_X2_takerBy vtr vled vmov x0) vw1 vw2 veo veb (j_X2_drawFor_F_vh1 vrow (j_X2_drawFor_F_vdrawn vdrawn) (j_X2_drawFor_F_vh1 vrow vdrawn vh1)) (vt1 ||| ((j_X2_bit vled) ||| (j_X2_bit x0))) (vp1 + ((j_X2_worth vled 0) + (j_X2_worth x0 0))) (vk1 + 1) (j_X0_loseWornGloves_vg vg1) vh2 vt2 vp2 vk2 (j_X0_loseWornGloves_vg vg2)) gX2_finishTrick_X2_endGame rfl (by decide +kernel) rfl ⟨⟨rfl, rfl⟩, ⟨Nat.le_of_ble_eq_true rfl, Nat.le_of_ble_eq_true rfl⟩, Nat.le_of_ble_eq_true rfl, Nat.le_of_ble_eq_true rfl⟩ hP hK hN hD hS hA [0, 1, 2, 3] [] [0, 1, 2, 3] [0] rfl rfl ⟨rfl, rfl, rfl⟩ (by decide) rfl rfl 0 2 rfl rfl rfl (lv_nil hl) rfl (Nat.le_of_ble_eq_true rfl) dX2_finishTrick_144 (fun H locs hP hD hS => ?_)
          refine lv_iload_n hx hb dX2_finishTrick_147 rfl (lv_at hl 2 rfl) ?_
          exact jw_iret hx hb hr hlocks hK hP hD hS dX2_finishTrick_148 (by  simp only [j_X2_finishTrick, if_pos c_1, if_neg c_2, if_pos c_3, if_pos c_4]) (by  simp only [j_X2_finishTrick_vdrawn, j_X2_finishTrick_vled, j_X2_finishTrick_vmov, j_X2_finishTrick_vw1, j_X2_finishTrick_vw2, j_X2_finishTrick_vh1, j_X2_finishTrick_vt1, j_X2_finishTrick_vp1, j_X2_finishTrick_vk1, j_X2_finishTrick_vg1, j_X2_finishTrick_vh2, j_X2_finishTrick_vt2, j_X2_finishTrick_vp2, j_X2_finishTrick_vk2, j_X2_finishTrick_vg2, if_pos c_1, if_neg c_2, if_pos c_3, if_pos c_4])
      · skip
        refine jw_callVv (n := 1) (C := RX2) (As := [.ref aG]) (rest := []) (wr := []) (wn := [(a0, .inr (2, [.ref aR, .ref aF, .ref aG, .int (j_X2_drawFor_G_vdrawn (j_X2_drawFor_F_vdrawn vdrawn)), .int vtr, .int (-1), .int vmov, .int vw1, .int vw2, va_rf veo, .int veb])), (aF, .inr (0, [.long (j_X2_drawFor_F_vh1 vrow vdrawn vh1), .long (vt1 ||| ((j_X2_bit vled) ||| (j_X2_bit x0))), .int (vp1 + ((j_X2_worth vled 0) + (j_X2_worth x0 0))), .int (vk1 + 1), .int (j_X0_loseWornGloves_vg vg1)])), (aG, .inr (0, [.long (j_X2_drawFor_G_vh2 vrow (j_X2_drawFor_F_vdrawn vdrawn) vh2), .long vt2, .int vp2, .int vk2, .int (j_X0_loseWornGloves_vg vg2)])), (aR, .inl (cI, 42, .inl vrow))]) S (c_X2_drawFor_G a0 aR aF aG cI vrow (j_X2_drawFor_F_vdrawn vdrawn) vtr (-1) vmov vw1 vw2 veo veb (j_X2_drawFor_F_vh1 vrow vdrawn vh1) (vt1 ||| ((j_X2_bit vled) ||| (j_X2_bit x0))) (vp1 + ((j_X2_worth vled 0) + (j_X2_worth x0 0))) (vk1 + 1) (j_X0_loseWornGloves_vg vg1) vh2 vt2 vp2 vk2 (j_X0_loseWornGloves_vg vg2)) gX2_finishTrick_X2_drawFor rfl (by decide +kernel) rfl ⟨⟨rfl, rfl⟩, ⟨Nat.le_of_ble_eq_true rfl, Nat.le_of_ble_eq_true rfl⟩, Nat.le_of_ble_eq_true rfl, Nat.le_of_ble_eq_true rfl⟩ hP hK hN hD hS hA [0, 1, 2, 3] [] [0, 1, 2, 3] [0] rfl rfl ⟨rfl, rfl, rfl⟩ (by decide) rfl rfl 0 2 rfl rfl rfl (lv_nil hl) rfl (Nat.le_of_ble_eq_true rfl) dX2_finishTrick_115 (fun H locs hP hD hS => ?_)
        refine lv_aload_n hx hb dX2_finishTrick_118 rfl (lv_at hl 3 rfl) ?_
        refine lv_iload_n hx hb dX2_finishTrick_119 rfl (lv_at hl 2 rfl) ?_
        refine va_put (D := D) (ci := 2) (v := .int (j_X2_takerBy vtr vled vmov x0)) (ty := .int) (C := RX2) (T := TX2) (N := 11) hx hb hts inX2_finishTrick_X2 tyX2 tyX2_ok nmX2 hown hK hP hD hS 0 rfl rfl 6 (by decide) (hts (.fieldLink RX2 33 "ArchivistTricks" "mover" "I") (by decide +kernel)) (fun _ h9 => h9) rfl (by decide +kernel) rfl rfl (Nat.le_of_ble_eq_true rfl) dX2_finishTrick_120 (fun H locs hP hD hS => ?_)
        have hP : va_P D vwCl [(a0, .inr (2, [.ref aR, .ref aF, .ref aG, .int (j_X2_drawFor_G_vdrawn (j_X2_drawFor_F_vdrawn vdrawn)), .int vtr, .int (-1), .int (j_X2_takerBy vtr vled vmov x0), .int vw1, .int vw2, va_rf veo, .int veb])), (aF, .inr (0, [.long (j_X2_drawFor_F_vh1 vrow vdrawn vh1), .long (vt1 ||| ((j_X2_bit vled) ||| (j_X2_bit x0))), .int (vp1 + ((j_X2_worth vled 0) + (j_X2_worth x0 0))), .int (vk1 + 1), .int (j_X0_loseWornGloves_vg vg1)])), (aG, .inr (0, [.long (j_X2_drawFor_G_vh2 vrow (j_X2_drawFor_F_vdrawn vdrawn) vh2), .long vt2, .int vp2, .int vk2, .int (j_X0_loseWornGloves_vg vg2)])), (aR, .inl (cI, 42, .inl vrow))] H := hP
        have hD : va_D A [(a0, .inr (2, [.ref aR, .ref aF, .ref aG, .int (j_X2_drawFor_G_vdrawn (j_X2_drawFor_F_vdrawn vdrawn)), .int vtr, .int (-1), .int (j_X2_takerBy vtr vled vmov x0), .int vw1, .int vw2, va_rf veo, .int veb])), (aF, .inr (0, [.long (j_X2_drawFor_F_vh1 vrow vdrawn vh1), .long (vt1 ||| ((j_X2_bit vled) ||| (j_X2_bit x0))), .int (vp1 + ((j_X2_worth vled 0) + (j_X2_worth x0 0))), .int (vk1 + 1), .int (j_X0_loseWornGloves_vg vg1)])), (aG, .inr (0, [.long (j_X2_drawFor_G_vh2 vrow (j_X2_drawFor_F_vdrawn vdrawn) vh2), .long vt2, .int vp2, .int vk2, .int (j_X0_loseWornGloves_vg vg2)])), (aR, .inl (cI, 42, .inl vrow))] := hD
        refine lv_aload_n hx hb dX2_finishTrick_123 rfl (lv_at hl 3 rfl) ?_
        refine va_get (D := D) (ci := 2) (v := .ref aF) (C := RX2) (T := TX2) (N := 11) hx hb hts inX2_finishTrick_X2 hown hK hP 0 rfl rfl 1 (by decide) (hts (.fieldLink RX2 16 "ArchivistTricks" "first" "LArchivistTricks$Archivist;") (by decide +kernel)) (fun _ h9 => h9) rfl dX2_finishTrick_124 ?_
        refine va_get (D := D) (ci := 0) (v := .long (j_X2_drawFor_F_vh1 vrow vdrawn vh1)) (C := RX0) (T := TX0) (N := 5) hx hb hts inX2_finishTrick_X0 hown hK hP 1 rfl rfl 0 (by decide) (hts (.fieldLink RX2 91 "ArchivistTricks$Archivist" "hand" "J") (by decide +kernel)) (fun _ h9 => h9) rfl dX2_finishTrick_127 ?_
        refine lv_aload_n hx hb dX2_finishTrick_130 rfl (lv_at hl 3 rfl) ?_
        refine va_get (D := D) (ci := 2) (v := .ref aG) (C := RX2) (T := TX2) (N := 11) hx hb hts inX2_finishTrick_X2 hown hK hP 0 rfl rfl 2 (by decide) (hts (.fieldLink RX2 20 "ArchivistTricks" "second" "LArchivistTricks$Archivist;") (by decide +kernel)) (fun _ h9 => h9) rfl dX2_finishTrick_131 ?_
        refine va_get (D := D) (ci := 0) (v := .long (j_X2_drawFor_G_vh2 vrow (j_X2_drawFor_F_vdrawn vdrawn) vh2)) (C := RX0) (T := TX0) (N := 5) hx hb hts inX2_finishTrick_X0 hown hK hP 2 rfl rfl 0 (by decide) (hts (.fieldLink RX2 91 "ArchivistTricks$Archivist" "hand" "J") (by decide +kernel)) (fun _ h9 => h9) rfl dX2_finishTrick_134 ?_
        refine lv_lor hx hb dX2_finishTrick_137 ?_
        refine lv_lconst (v := 0) hx hb dX2_finishTrick_138 (by decide) ?_
        refine W.lcmp hx hb dX2_finishTrick_139 ?_
        refine lv_if_ne (tgt := 147) hx hb dX2_finishTrick_140 (by decide) (fun c_5 => ?_) (fun c_5 => ?_)
        · skip
          refine lv_iload_n hx hb dX2_finishTrick_147 rfl (lv_at hl 2 rfl) ?_
          exact jw_iret hx hb hr hlocks hK hP hD hS dX2_finishTrick_148 (by  simp only [j_X2_finishTrick, if_pos c_1, if_neg c_2, if_neg c_3, if_neg c_5]) (by  simp only [j_X2_finishTrick_vdrawn, j_X2_finishTrick_vled, j_X2_finishTrick_vmov, j_X2_finishTrick_vw1, j_X2_finishTrick_vw2, j_X2_finishTrick_vh1, j_X2_finishTrick_vt1, j_X2_finishTrick_vp1, j_X2_finishTrick_vk1, j_X2_finishTrick_vg1, j_X2_finishTrick_vh2, j_X2_finishTrick_vt2, j_X2_finishTrick_vp2, j_X2_finishTrick_vk2, j_X2_finishTrick_vg2, if_pos c_1, if_neg c_2, if_neg c_3, if_neg c_5])
        · skip
          refine lv_aload_n hx hb dX2_finishTrick_143 rfl (lv_at hl 3 rfl) ?_
          refine jw_callVv (n := 0) (C := RX2) (As := []) (rest := []) (wr := []) (wn := [(a0, .inr (2, [.ref aR, .ref aF, .ref aG, .int (j_X2_drawFor_G_vdrawn (j_X2_drawFor_F_vdrawn vdrawn)), .int vtr, .int (-1), .int j_X2_endGame_vmov, .int (j_X2_endGame_vw1 vw1 (vp1 + ((j_X2_worth vled 0) + (j_X2_worth x0 0))) vp2), .int (j_X2_endGame_vw2 vw2 (vp1 + ((j_X2_worth vled 0) + (j_X2_worth x0 0))) vp2), va_rf veo, .int veb])), (aF, .inr (0, [.long (j_X2_drawFor_F_vh1 vrow vdrawn vh1), .long (vt1 ||| ((j_X2_bit vled) ||| (j_X2_bit x0))), .int (vp1 + ((j_X2_worth vled 0) + (j_X2_worth x0 0))), .int (vk1 + 1), .int (j_X0_loseWornGloves_vg vg1)])), (aG, .inr (0, [.long (j_X2_drawFor_G_vh2 vrow (j_X2_drawFor_F_vdrawn vdrawn) vh2), .long vt2, .int vp2, .int vk2, .int (j_X0_loseWornGloves_vg vg2)])), (aR, .inl (cI, 42, .inl vrow))]) S (c_X2_endGame a0 aR aF aG cI vrow (j_X2_drawFor_G_vdrawn (j_X2_drawFor_F_vdrawn vdrawn)) vtr (-1) (j_X2_takerBy vtr vled vmov x0) vw1 vw2 veo veb (j_X2_drawFor_F_vh1 vrow vdrawn vh1) (vt1 ||| ((j_X2_bit vled) ||| (j_X2_bit x0))) (vp1 + ((j_X2_worth vled 0) + (j_X2_worth x0 0))) (vk1 + 1) (j_X0_loseWornGloves_vg vg1) (j_X2_drawFor_G_vh2 vrow (j_X2_drawFor_F_vdrawn vdrawn) vh2) vt2 vp2 vk2 (j_X0_loseWornGloves_vg vg2)) gX2_finishTrick_X2_endGame rfl (by decide +kernel) rfl ⟨⟨rfl, rfl⟩, ⟨Nat.le_of_ble_eq_true rfl, Nat.le_of_ble_eq_true rfl⟩, Nat.le_of_ble_eq_true rfl, Nat.le_of_ble_eq_true rfl⟩ hP hK hN hD hS hA [0, 1, 2, 3] [] [0, 1, 2, 3] [0] rfl rfl ⟨rfl, rfl, rfl⟩ (by decide) rfl rfl 0 2 rfl rfl rfl (lv_nil hl) rfl (Nat.le_of_ble_eq_true rfl) dX2_finishTrick_144 (fun H locs hP hD hS => ?_)
          refine lv_iload_n hx hb dX2_finishTrick_147 rfl (lv_at hl 2 rfl) ?_
          exact jw_iret hx hb hr hlocks hK hP hD hS dX2_finishTrick_148 (by  simp only [j_X2_finishTrick, if_pos c_1, if_neg c_2, if_neg c_3, if_pos c_5]) (by  simp only [j_X2_finishTrick_vdrawn, j_X2_finishTrick_vled, j_X2_finishTrick_vmov, j_X2_finishTrick_vw1, j_X2_finishTrick_vw2, j_X2_finishTrick_vh1, j_X2_finishTrick_vt1, j_X2_finishTrick_vp1, j_X2_finishTrick_vk1, j_X2_finishTrick_vg1, j_X2_finishTrick_vh2, j_X2_finishTrick_vt2, j_X2_finishTrick_vp2, j_X2_finishTrick_vk2, j_X2_finishTrick_vg2, if_pos c_1, if_neg c_2, if_neg c_3, if_pos c_5])
    · skip
      refine lv_iconst (v := 1) hx hb dX2_finishTrick_20 (by decide) ?_
      refine lv_goto (tgt := 25) hx hb dX2_finishTrick_21 (by decide) ?_
      refine lv_istore (lv' := [(4, .int 1), (3, .ref aF), (2, .int (j_X2_takerBy vtr vled vmov x0)), (0, .ref a0), (1, .int x0)]) hx hb dX2_finishTrick_25 hl (by decide) rfl (fun ls hl => ?_)
      refine lv_aload_n hx hb dX2_finishTrick_27 rfl (lv_at hl 1 rfl) ?_
      refine lv_dup hx hb dX2_finishTrick_28 rfl ?_
      refine va_get (D := D) (ci := 0) (v := .int vp1) (C := RX0) (T := TX0) (N := 5) hx hb hts inX2_finishTrick_X0 hown hK hP 1 rfl rfl 2 (by decide) (hts (.fieldLink RX2 133 "ArchivistTricks$Archivist" "points" "I") (by decide +kernel)) (fun _ h9 => h9) rfl dX2_finishTrick_29 ?_
      refine lv_aload_n hx hb dX2_finishTrick_32 rfl (lv_at hl 3 rfl) ?_
      refine va_get (D := D) (ci := 2) (v := .int vled) (C := RX2) (T := TX2) (N := 11) hx hb hts inX2_finishTrick_X2 hown hK hP 0 rfl rfl 5 (by decide) (hts (.fieldLink RX2 30 "ArchivistTricks" "ledCard" "I") (by decide +kernel)) (fun _ h9 => h9) rfl dX2_finishTrick_33 ?_
      refine lv_iload hx hb dX2_finishTrick_36 (lv_at hl 0 rfl) ?_
      refine jr_callS (n := 2) (As := [.int vled, .int 1]) (rest := [.int vp1, .ref aF]) S (c_X2_worth vled 1) gX2_finishTrick_X2_worth rfl (by decide +kernel) rfl ⟨⟨rfl, rfl⟩, ⟨Nat.le_of_ble_eq_true rfl, Nat.le_of_ble_eq_true rfl⟩, Nat.le_of_ble_eq_true rfl, Nat.le_of_ble_eq_true rfl⟩ hP hK hN [] [] rfl rfl (lv_nil hl) rfl (Nat.le_of_ble_eq_true rfl) dX2_finishTrick_38 ?_
      refine lv_iload_n hx hb dX2_finishTrick_41 rfl (lv_at hl 4 rfl) ?_
      refine lv_iload hx hb dX2_finishTrick_42 (lv_at hl 0 rfl) ?_
      refine jr_callS (n := 2) (As := [.int x0, .int 1]) (rest := [.int (j_X2_worth vled 1), .int vp1, .ref aF]) S (c_X2_worth x0 1) gX2_finishTrick_X2_worth rfl (by decide +kernel) rfl ⟨⟨rfl, rfl⟩, ⟨Nat.le_of_ble_eq_true rfl, Nat.le_of_ble_eq_true rfl⟩, Nat.le_of_ble_eq_true rfl, Nat.le_of_ble_eq_true rfl⟩ hP hK hN [] [] rfl rfl (lv_nil hl) rfl (Nat.le_of_ble_eq_true rfl) dX2_finishTrick_44 ?_
      refine lv_iadd hx hb dX2_finishTrick_47 ?_
      refine lv_iadd hx hb dX2_finishTrick_48 ?_
      refine va_put (D := D) (ci := 0) (v := .int (vp1 + ((j_X2_worth vled 1) + (j_X2_worth x0 1)))) (ty := .int) (C := RX0) (T := TX0) (N := 5) hx hb hts inX2_finishTrick_X0 tyX0 tyX0_ok nmX0 hown hK hP hD hS 1 rfl rfl 2 (by decide) (hts (.fieldLink RX2 133 "ArchivistTricks$Archivist" "points" "I") (by decide +kernel)) (fun _ h9 => h9) rfl (by decide +kernel) rfl rfl (Nat.le_of_ble_eq_true rfl) dX2_finishTrick_49 (fun H locs hP hD hS => ?_)
      have hP : va_P D vwCl [(a0, .inr (2, [.ref aR, .ref aF, .ref aG, .int vdrawn, .int vtr, .int vled, .int vmov, .int vw1, .int vw2, va_rf veo, .int veb])), (aF, .inr (0, [.long vh1, .long vt1, .int (vp1 + ((j_X2_worth vled 1) + (j_X2_worth x0 1))), .int vk1, .int vg1])), (aG, .inr (0, [.long vh2, .long vt2, .int vp2, .int vk2, .int vg2])), (aR, .inl (cI, 42, .inl vrow))] H := hP
      have hD : va_D A [(a0, .inr (2, [.ref aR, .ref aF, .ref aG, .int vdrawn, .int vtr, .int vled, .int vmov, .int vw1, .int vw2, va_rf veo, .int veb])), (aF, .inr (0, [.long vh1, .long vt1, .int (vp1 + ((j_X2_worth vled 1) + (j_X2_worth x0 1))), .int vk1, .int vg1])), (aG, .inr (0, [.long vh2, .long vt2, .int vp2, .int vk2, .int vg2])), (aR, .inl (cI, 42, .inl vrow))] := hD
      refine lv_aload_n hx hb dX2_finishTrick_52 rfl (lv_at hl 1 rfl) ?_
      refine lv_dup hx hb dX2_finishTrick_53 rfl ?_
      refine va_get (D := D) (ci := 0) (v := .int vk1) (C := RX0) (T := TX0) (N := 5) hx hb hts inX2_finishTrick_X0 hown hK hP 1 rfl rfl 3 (by decide) (hts (.fieldLink RX2 136 "ArchivistTricks$Archivist" "tricks" "I") (by decide +kernel)) (fun _ h9 => h9) rfl dX2_finishTrick_54 ?_
      refine lv_iconst (v := 1) hx hb dX2_finishTrick_57 (by decide) ?_
      refine lv_iadd hx hb dX2_finishTrick_58 ?_
      refine va_put (D := D) (ci := 0) (v := .int (vk1 + 1)) (ty := .int) (C := RX0) (T := TX0) (N := 5) hx hb hts inX2_finishTrick_X0 tyX0 tyX0_ok nmX0 hown hK hP hD hS 1 rfl rfl 3 (by decide) (hts (.fieldLink RX2 136 "ArchivistTricks$Archivist" "tricks" "I") (by decide +kernel)) (fun _ h9 => h9) rfl (by decide +kernel) rfl rfl (Nat.le_of_ble_eq_true rfl) dX2_finishTrick_59 (fun H locs hP hD hS => ?_)
      have hP : va_P D vwCl [(a0, .inr (2, [.ref aR, .ref aF, .ref aG, .int vdrawn, .int vtr, .int vled, .int vmov, .int vw1, .int vw2, va_rf veo, .int veb])), (aF, .inr (0, [.long vh1, .long vt1, .int (vp1 + ((j_X2_worth vled 1) + (j_X2_worth x0 1))), .int (vk1 + 1), .int vg1])), (aG, .inr (0, [.long vh2, .long vt2, .int vp2, .int vk2, .int vg2])), (aR, .inl (cI, 42, .inl vrow))] H := hP
      have hD : va_D A [(a0, .inr (2, [.ref aR, .ref aF, .ref aG, .int vdrawn, .int vtr, .int vled, .int vmov, .int vw1, .int vw2, va_rf veo, .int veb])), (aF, .inr (0, [.long vh1, .long vt1, .int (vp1 + ((j_X2_worth vled 1) + (j_X2_worth x0 1))), .int (vk1 + 1), .int vg1])), (aG, .inr (0, [.long vh2, .long vt2, .int vp2, .int vk2, .int vg2])), (aR, .inl (cI, 42, .inl vrow))] := hD
      refine lv_aload_n hx hb dX2_finishTrick_62 rfl (lv_at hl 1 rfl) ?_
      refine lv_dup hx hb dX2_finishTrick_63 rfl ?_
      refine va_get (D := D) (ci := 0) (v := .long vt1) (C := RX0) (T := TX0) (N := 5) hx hb hts inX2_finishTrick_X0 hown hK hP 1 rfl rfl 1 (by decide) (hts (.fieldLink RX2 130 "ArchivistTricks$Archivist" "taken" "J") (by decide +kernel)) (fun _ h9 => h9) rfl dX2_finishTrick_64 ?_
      refine lv_aload_n hx hb dX2_finishTrick_67 rfl (lv_at hl 3 rfl) ?_
      refine va_get (D := D) (ci := 2) (v := .int vled) (C := RX2) (T := TX2) (N := 11) hx hb hts inX2_finishTrick_X2 hown hK hP 0 rfl rfl 5 (by decide) (hts (.fieldLink RX2 30 "ArchivistTricks" "ledCard" "I") (by decide +kernel)) (fun _ h9 => h9) rfl dX2_finishTrick_68 ?_
      refine jr_callS (n := 1) (As := [.int vled]) (rest := [.long vt1, .ref aF]) S (c_X2_bit vled) gX2_finishTrick_X2_bit rfl (by decide +kernel) rfl ⟨⟨rfl, rfl⟩, ⟨Nat.le_of_ble_eq_true rfl, Nat.le_of_ble_eq_true rfl⟩, Nat.le_of_ble_eq_true rfl, Nat.le_of_ble_eq_true rfl⟩ hP hK hN [] [] rfl rfl (lv_nil hl) rfl (Nat.le_of_ble_eq_true rfl) dX2_finishTrick_71 ?_
      refine lv_iload_n hx hb dX2_finishTrick_74 rfl (lv_at hl 4 rfl) ?_
      refine jr_callS (n := 1) (As := [.int x0]) (rest := [.long (j_X2_bit vled), .long vt1, .ref aF]) S (c_X2_bit x0) gX2_finishTrick_X2_bit rfl (by decide +kernel) rfl ⟨⟨rfl, rfl⟩, ⟨Nat.le_of_ble_eq_true rfl, Nat.le_of_ble_eq_true rfl⟩, Nat.le_of_ble_eq_true rfl, Nat.le_of_ble_eq_true rfl⟩ hP hK hN [] [] rfl rfl (lv_nil hl) rfl (Nat.le_of_ble_eq_true rfl) dX2_finishTrick_75 ?_
      refine lv_lor hx hb dX2_finishTrick_78 ?_
      refine lv_lor hx hb dX2_finishTrick_79 ?_
      refine va_put (D := D) (ci := 0) (v := .long (vt1 ||| ((j_X2_bit vled) ||| (j_X2_bit x0)))) (ty := .long) (C := RX0) (T := TX0) (N := 5) hx hb hts inX2_finishTrick_X0 tyX0 tyX0_ok nmX0 hown hK hP hD hS 1 rfl rfl 1 (by decide) (hts (.fieldLink RX2 130 "ArchivistTricks$Archivist" "taken" "J") (by decide +kernel)) (fun _ h9 => h9) rfl (by decide +kernel) rfl rfl (Nat.le_of_ble_eq_true rfl) dX2_finishTrick_80 (fun H locs hP hD hS => ?_)
      have hP : va_P D vwCl [(a0, .inr (2, [.ref aR, .ref aF, .ref aG, .int vdrawn, .int vtr, .int vled, .int vmov, .int vw1, .int vw2, va_rf veo, .int veb])), (aF, .inr (0, [.long vh1, .long (vt1 ||| ((j_X2_bit vled) ||| (j_X2_bit x0))), .int (vp1 + ((j_X2_worth vled 1) + (j_X2_worth x0 1))), .int (vk1 + 1), .int vg1])), (aG, .inr (0, [.long vh2, .long vt2, .int vp2, .int vk2, .int vg2])), (aR, .inl (cI, 42, .inl vrow))] H := hP
      have hD : va_D A [(a0, .inr (2, [.ref aR, .ref aF, .ref aG, .int vdrawn, .int vtr, .int vled, .int vmov, .int vw1, .int vw2, va_rf veo, .int veb])), (aF, .inr (0, [.long vh1, .long (vt1 ||| ((j_X2_bit vled) ||| (j_X2_bit x0))), .int (vp1 + ((j_X2_worth vled 1) + (j_X2_worth x0 1))), .int (vk1 + 1), .int vg1])), (aG, .inr (0, [.long vh2, .long vt2, .int vp2, .int vk2, .int vg2])), (aR, .inl (cI, 42, .inl vrow))] := hD
      refine lv_aload_n hx hb dX2_finishTrick_83 rfl (lv_at hl 3 rfl) ?_
      refine va_get (D := D) (ci := 2) (v := .ref aF) (C := RX2) (T := TX2) (N := 11) hx hb hts inX2_finishTrick_X2 hown hK hP 0 rfl rfl 1 (by decide) (hts (.fieldLink RX2 16 "ArchivistTricks" "first" "LArchivistTricks$Archivist;") (by decide +kernel)) (fun _ h9 => h9) rfl dX2_finishTrick_84 ?_
      refine jw_callVv (n := 0) (C := RX0) (As := []) (rest := []) (wr := [(a0, .inr (2, [.ref aR, .ref aF, .ref aG, .int vdrawn, .int vtr, .int vled, .int vmov, .int vw1, .int vw2, va_rf veo, .int veb])), (aG, .inr (0, [.long vh2, .long vt2, .int vp2, .int vk2, .int vg2])), (aR, .inl (cI, 42, .inl vrow))]) (wn := [(a0, .inr (2, [.ref aR, .ref aF, .ref aG, .int vdrawn, .int vtr, .int vled, .int vmov, .int vw1, .int vw2, va_rf veo, .int veb])), (aF, .inr (0, [.long vh1, .long (vt1 ||| ((j_X2_bit vled) ||| (j_X2_bit x0))), .int (vp1 + ((j_X2_worth vled 1) + (j_X2_worth x0 1))), .int (vk1 + 1), .int (j_X0_loseWornGloves_vg vg1)])), (aG, .inr (0, [.long vh2, .long vt2, .int vp2, .int vk2, .int vg2])), (aR, .inl (cI, 42, .inl vrow))]) S (c_X0_loseWornGloves aF vh1 (vt1 ||| ((j_X2_bit vled) ||| (j_X2_bit x0))) (vp1 + ((j_X2_worth vled 1) + (j_X2_worth x0 1))) (vk1 + 1) vg1) gX2_finishTrick_X0_loseWornGloves rfl (by decide +kernel) rfl ⟨⟨rfl, rfl⟩, ⟨Nat.le_of_ble_eq_true rfl, Nat.le_of_ble_eq_true rfl⟩, Nat.le_of_ble_eq_true rfl, Nat.le_of_ble_eq_true rfl⟩ hP hK hN hD hS hA [1] [0, 2, 3] [0, 3, 1, 2] [] rfl rfl ⟨rfl, rfl, rfl⟩ (by decide) rfl rfl 0 0 rfl rfl rfl (lv_nil hl) rfl (Nat.le_of_ble_eq_true rfl) dX2_finishTrick_87 (fun H locs hP hD hS => ?_)
      refine lv_aload_n hx hb dX2_finishTrick_90 rfl (lv_at hl 3 rfl) ?_
      refine va_get (D := D) (ci := 2) (v := .ref aG) (C := RX2) (T := TX2) (N := 11) hx hb hts inX2_finishTrick_X2 hown hK hP 0 rfl rfl 2 (by decide) (hts (.fieldLink RX2 20 "ArchivistTricks" "second" "LArchivistTricks$Archivist;") (by decide +kernel)) (fun _ h9 => h9) rfl dX2_finishTrick_91 ?_
      refine jw_callVv (n := 0) (C := RX0) (As := []) (rest := []) (wr := [(a0, .inr (2, [.ref aR, .ref aF, .ref aG, .int vdrawn, .int vtr, .int vled, .int vmov, .int vw1, .int vw2, va_rf veo, .int veb])), (aF, .inr (0, [.long vh1, .long (vt1 ||| ((j_X2_bit vled) ||| (j_X2_bit x0))), .int (vp1 + ((j_X2_worth vled 1) + (j_X2_worth x0 1))), .int (vk1 + 1), .int (j_X0_loseWornGloves_vg vg1)])), (aR, .inl (cI, 42, .inl vrow))]) (wn := [(a0, .inr (2, [.ref aR, .ref aF, .ref aG, .int vdrawn, .int vtr, .int vled, .int vmov, .int vw1, .int vw2, va_rf veo, .int veb])), (aF, .inr (0, [.long vh1, .long (vt1 ||| ((j_X2_bit vled) ||| (j_X2_bit x0))), .int (vp1 + ((j_X2_worth vled 1) + (j_X2_worth x0 1))), .int (vk1 + 1), .int (j_X0_loseWornGloves_vg vg1)])), (aG, .inr (0, [.long vh2, .long vt2, .int vp2, .int vk2, .int (j_X0_loseWornGloves_vg vg2)])), (aR, .inl (cI, 42, .inl vrow))]) S (c_X0_loseWornGloves aG vh2 vt2 vp2 vk2 vg2) gX2_finishTrick_X0_loseWornGloves rfl (by decide +kernel) rfl ⟨⟨rfl, rfl⟩, ⟨Nat.le_of_ble_eq_true rfl, Nat.le_of_ble_eq_true rfl⟩, Nat.le_of_ble_eq_true rfl, Nat.le_of_ble_eq_true rfl⟩ hP hK hN hD hS hA [2] [0, 1, 3] [0, 1, 3, 2] [] rfl rfl ⟨rfl, rfl, rfl⟩ (by decide) rfl rfl 0 0 rfl rfl rfl (lv_nil hl) rfl (Nat.le_of_ble_eq_true rfl) dX2_finishTrick_94 (fun H locs hP hD hS => ?_)
      refine lv_aload_n hx hb dX2_finishTrick_97 rfl (lv_at hl 3 rfl) ?_
      refine lv_iconst (v := (-1)) hx hb dX2_finishTrick_98 (by decide) ?_
      refine va_put (D := D) (ci := 2) (v := .int (-1)) (ty := .int) (C := RX2) (T := TX2) (N := 11) hx hb hts inX2_finishTrick_X2 tyX2 tyX2_ok nmX2 hown hK hP hD hS 0 rfl rfl 5 (by decide) (hts (.fieldLink RX2 30 "ArchivistTricks" "ledCard" "I") (by decide +kernel)) (fun _ h9 => h9) rfl (by decide +kernel) rfl rfl (Nat.le_of_ble_eq_true rfl) dX2_finishTrick_99 (fun H locs hP hD hS => ?_)
      have hP : va_P D vwCl [(a0, .inr (2, [.ref aR, .ref aF, .ref aG, .int vdrawn, .int vtr, .int (-1), .int vmov, .int vw1, .int vw2, va_rf veo, .int veb])), (aF, .inr (0, [.long vh1, .long (vt1 ||| ((j_X2_bit vled) ||| (j_X2_bit x0))), .int (vp1 + ((j_X2_worth vled 1) + (j_X2_worth x0 1))), .int (vk1 + 1), .int (j_X0_loseWornGloves_vg vg1)])), (aG, .inr (0, [.long vh2, .long vt2, .int vp2, .int vk2, .int (j_X0_loseWornGloves_vg vg2)])), (aR, .inl (cI, 42, .inl vrow))] H := hP
      have hD : va_D A [(a0, .inr (2, [.ref aR, .ref aF, .ref aG, .int vdrawn, .int vtr, .int (-1), .int vmov, .int vw1, .int vw2, va_rf veo, .int veb])), (aF, .inr (0, [.long vh1, .long (vt1 ||| ((j_X2_bit vled) ||| (j_X2_bit x0))), .int (vp1 + ((j_X2_worth vled 1) + (j_X2_worth x0 1))), .int (vk1 + 1), .int (j_X0_loseWornGloves_vg vg1)])), (aG, .inr (0, [.long vh2, .long vt2, .int vp2, .int vk2, .int (j_X0_loseWornGloves_vg vg2)])), (aR, .inl (cI, 42, .inl vrow))] := hD
      refine lv_aload_n hx hb dX2_finishTrick_102 rfl (lv_at hl 3 rfl) ?_
      refine lv_aload_n hx hb dX2_finishTrick_103 rfl (lv_at hl 1 rfl) ?_
      refine jw_callVv (n := 1) (C := RX2) (As := [.ref aF]) (rest := []) (wr := []) (wn := [(a0, .inr (2, [.ref aR, .ref aF, .ref aG, .int (j_X2_drawFor_F_vdrawn vdrawn), .int vtr, .int (-1), .int vmov, .int vw1, .int vw2, va_rf veo, .int veb])), (aF, .inr (0, [.long (j_X2_drawFor_F_vh1 vrow vdrawn vh1), .long (vt1 ||| ((j_X2_bit vled) ||| (j_X2_bit x0))), .int (vp1 + ((j_X2_worth vled 1) + (j_X2_worth x0 1))), .int (vk1 + 1), .int (j_X0_loseWornGloves_vg vg1)])), (aG, .inr (0, [.long vh2, .long vt2, .int vp2, .int vk2, .int (j_X0_loseWornGloves_vg vg2)])), (aR, .inl (cI, 42, .inl vrow))]) S (c_X2_drawFor_F a0 aR aF aG cI vrow vdrawn vtr (-1) vmov vw1 vw2 veo veb vh1 (vt1 ||| ((j_X2_bit vled) ||| (j_X2_bit x0))) (vp1 + ((j_X2_worth vled 1) + (j_X2_worth x0 1))) (vk1 + 1) (j_X0_loseWornGloves_vg vg1) vh2 vt2 vp2 vk2 (j_X0_loseWornGloves_vg vg2)) gX2_finishTrick_X2_drawFor rfl (by decide +kernel) rfl ⟨⟨rfl, rfl⟩, ⟨Nat.le_of_ble_eq_true rfl, Nat.le_of_ble_eq_true rfl⟩, Nat.le_of_ble_eq_true rfl, Nat.le_of_ble_eq_true rfl⟩ hP hK hN hD hS hA [0, 1, 2, 3] [] [0, 1, 2, 3] [0] rfl rfl ⟨rfl, rfl, rfl⟩ (by decide) rfl rfl 0 2 rfl rfl rfl (lv_nil hl) rfl (Nat.le_of_ble_eq_true rfl) dX2_finishTrick_104 (fun H locs hP hD hS => ?_)
      refine lv_aload_n hx hb dX2_finishTrick_107 rfl (lv_at hl 3 rfl) ?_
      refine lv_aload_n hx hb dX2_finishTrick_108 rfl (lv_at hl 3 rfl) ?_
      refine lv_iconst (v := 1) hx hb dX2_finishTrick_109 (by decide) ?_
      refine lv_iload_n hx hb dX2_finishTrick_110 rfl (lv_at hl 2 rfl) ?_
      refine lv_isub hx hb dX2_finishTrick_111 ?_
      refine jr_callV (n := 1) (C := RX2) (As := [.int (1 - (j_X2_takerBy vtr vled vmov x0))]) (rest := [.ref a0]) S (c_X2_archivist a0 aR aF aG cI vrow (j_X2_drawFor_F_vdrawn vdrawn) vtr (-1) vmov vw1 vw2 veo veb (j_X2_drawFor_F_vh1 vrow vdrawn vh1) (vt1 ||| ((j_X2_bit vled) ||| (j_X2_bit x0))) (vp1 + ((j_X2_worth vled 1) + (j_X2_worth x0 1))) (vk1 + 1) (j_X0_loseWornGloves_vg vg1) vh2 vt2 vp2 vk2 (j_X0_loseWornGloves_vg vg2) (1 - (j_X2_takerBy vtr vled vmov x0))) gX2_finishTrick_X2_archivist rfl (by decide +kernel) rfl ⟨⟨rfl, rfl⟩, ⟨Nat.le_of_ble_eq_true rfl, Nat.le_of_ble_eq_true rfl⟩, Nat.le_of_ble_eq_true rfl, Nat.le_of_ble_eq_true rfl⟩ hP hK hN [0, 1, 2, 3] [0] rfl rfl 0 2 rfl rfl rfl (lv_nil hl) rfl (Nat.le_of_ble_eq_true rfl) dX2_finishTrick_112 ?_
      refine jr_ite (c0 := (1 - (j_X2_takerBy vtr vled vmov x0)) = 0) (a := aF) (b := aG) rfl (fun c_6 => ?_) (fun c_6 => ?_)
      · skip
        refine jw_callVv (n := 1) (C := RX2) (As := [.ref aF]) (rest := []) (wr := []) (wn := [(a0, .inr (2, [.ref aR, .ref aF, .ref aG, .int (j_X2_drawFor_F_vdrawn (j_X2_drawFor_F_vdrawn vdrawn)), .int vtr, .int (-1), .int vmov, .int vw1, .int vw2, va_rf veo, .int veb])), (aF, .inr (0, [.long (j_X2_drawFor_F_vh1 vrow (j_X2_drawFor_F_vdrawn vdrawn) (j_X2_drawFor_F_vh1 vrow vdrawn vh1)), .long (vt1 ||| ((j_X2_bit vled) ||| (j_X2_bit x0))), .int (vp1 + ((j_X2_worth vled 1) + (j_X2_worth x0 1))), .int (vk1 + 1), .int (j_X0_loseWornGloves_vg vg1)])), (aG, .inr (0, [.long vh2, .long vt2, .int vp2, .int vk2, .int (j_X0_loseWornGloves_vg vg2)])), (aR, .inl (cI, 42, .inl vrow))]) S (c_X2_drawFor_F a0 aR aF aG cI vrow (j_X2_drawFor_F_vdrawn vdrawn) vtr (-1) vmov vw1 vw2 veo veb (j_X2_drawFor_F_vh1 vrow vdrawn vh1) (vt1 ||| ((j_X2_bit vled) ||| (j_X2_bit x0))) (vp1 + ((j_X2_worth vled 1) + (j_X2_worth x0 1))) (vk1 + 1) (j_X0_loseWornGloves_vg vg1) vh2 vt2 vp2 vk2 (j_X0_loseWornGloves_vg vg2)) gX2_finishTrick_X2_drawFor rfl (by decide +kernel) rfl ⟨⟨rfl, rfl⟩, ⟨Nat.le_of_ble_eq_true rfl, Nat.le_of_ble_eq_true rfl⟩, Nat.le_of_ble_eq_true rfl, Nat.le_of_ble_eq_true rfl⟩ hP hK hN hD hS hA [0, 1, 2, 3] [] [0, 1, 2, 3] [0] rfl rfl ⟨rfl, rfl, rfl⟩ (by decide) rfl rfl 0 2 rfl rfl rfl (lv_nil hl) rfl (Nat.le_of_ble_eq_true rfl) dX2_finishTrick_115 (fun H locs hP hD hS => ?_)
        refine lv_aload_n hx hb dX2_finishTrick_118 rfl (lv_at hl 3 rfl) ?_
        refine lv_iload_n hx hb dX2_finishTrick_119 rfl (lv_at hl 2 rfl) ?_
        refine va_put (D := D) (ci := 2) (v := .int (j_X2_takerBy vtr vled vmov x0)) (ty := .int) (C := RX2) (T := TX2) (N := 11) hx hb hts inX2_finishTrick_X2 tyX2 tyX2_ok nmX2 hown hK hP hD hS 0 rfl rfl 6 (by decide) (hts (.fieldLink RX2 33 "ArchivistTricks" "mover" "I") (by decide +kernel)) (fun _ h9 => h9) rfl (by decide +kernel) rfl rfl (Nat.le_of_ble_eq_true rfl) dX2_finishTrick_120 (fun H locs hP hD hS => ?_)
        have hP : va_P D vwCl [(a0, .inr (2, [.ref aR, .ref aF, .ref aG, .int (j_X2_drawFor_F_vdrawn (j_X2_drawFor_F_vdrawn vdrawn)), .int vtr, .int (-1), .int (j_X2_takerBy vtr vled vmov x0), .int vw1, .int vw2, va_rf veo, .int veb])), (aF, .inr (0, [.long (j_X2_drawFor_F_vh1 vrow (j_X2_drawFor_F_vdrawn vdrawn) (j_X2_drawFor_F_vh1 vrow vdrawn vh1)), .long (vt1 ||| ((j_X2_bit vled) ||| (j_X2_bit x0))), .int (vp1 + ((j_X2_worth vled 1) + (j_X2_worth x0 1))), .int (vk1 + 1), .int (j_X0_loseWornGloves_vg vg1)])), (aG, .inr (0, [.long vh2, .long vt2, .int vp2, .int vk2, .int (j_X0_loseWornGloves_vg vg2)])), (aR, .inl (cI, 42, .inl vrow))] H := hP
        have hD : va_D A [(a0, .inr (2, [.ref aR, .ref aF, .ref aG, .int (j_X2_drawFor_F_vdrawn (j_X2_drawFor_F_vdrawn vdrawn)), .int vtr, .int (-1), .int (j_X2_takerBy vtr vled vmov x0), .int vw1, .int vw2, va_rf veo, .int veb])), (aF, .inr (0, [.long (j_X2_drawFor_F_vh1 vrow (j_X2_drawFor_F_vdrawn vdrawn) (j_X2_drawFor_F_vh1 vrow vdrawn vh1)), .long (vt1 ||| ((j_X2_bit vled) ||| (j_X2_bit x0))), .int (vp1 + ((j_X2_worth vled 1) + (j_X2_worth x0 1))), .int (vk1 + 1), .int (j_X0_loseWornGloves_vg vg1)])), (aG, .inr (0, [.long vh2, .long vt2, .int vp2, .int vk2, .int (j_X0_loseWornGloves_vg vg2)])), (aR, .inl (cI, 42, .inl vrow))] := hD
        refine lv_aload_n hx hb dX2_finishTrick_123 rfl (lv_at hl 3 rfl) ?_
        refine va_get (D := D) (ci := 2) (v := .ref aF) (C := RX2) (T := TX2) (N := 11) hx hb hts inX2_finishTrick_X2 hown hK hP 0 rfl rfl 1 (by decide) (hts (.fieldLink RX2 16 "ArchivistTricks" "first" "LArchivistTricks$Archivist;") (by decide +kernel)) (fun _ h9 => h9) rfl dX2_finishTrick_124 ?_
        refine va_get (D := D) (ci := 0) (v := .long (j_X2_drawFor_F_vh1 vrow (j_X2_drawFor_F_vdrawn vdrawn) (j_X2_drawFor_F_vh1 vrow vdrawn vh1))) (C := RX0) (T := TX0) (N := 5) hx hb hts inX2_finishTrick_X0 hown hK hP 1 rfl rfl 0 (by decide) (hts (.fieldLink RX2 91 "ArchivistTricks$Archivist" "hand" "J") (by decide +kernel)) (fun _ h9 => h9) rfl dX2_finishTrick_127 ?_
        refine lv_aload_n hx hb dX2_finishTrick_130 rfl (lv_at hl 3 rfl) ?_
        refine va_get (D := D) (ci := 2) (v := .ref aG) (C := RX2) (T := TX2) (N := 11) hx hb hts inX2_finishTrick_X2 hown hK hP 0 rfl rfl 2 (by decide) (hts (.fieldLink RX2 20 "ArchivistTricks" "second" "LArchivistTricks$Archivist;") (by decide +kernel)) (fun _ h9 => h9) rfl dX2_finishTrick_131 ?_
        refine va_get (D := D) (ci := 0) (v := .long vh2) (C := RX0) (T := TX0) (N := 5) hx hb hts inX2_finishTrick_X0 hown hK hP 2 rfl rfl 0 (by decide) (hts (.fieldLink RX2 91 "ArchivistTricks$Archivist" "hand" "J") (by decide +kernel)) (fun _ h9 => h9) rfl dX2_finishTrick_134 ?_
        refine lv_lor hx hb dX2_finishTrick_137 ?_
        refine lv_lconst (v := 0) hx hb dX2_finishTrick_138 (by decide) ?_
        refine W.lcmp hx hb dX2_finishTrick_139 ?_
        refine lv_if_ne (tgt := 147) hx hb dX2_finishTrick_140 (by decide) (fun c_7 => ?_) (fun c_7 => ?_)
        · skip
          refine lv_iload_n hx hb dX2_finishTrick_147 rfl (lv_at hl 2 rfl) ?_
          exact jw_iret hx hb hr hlocks hK hP hD hS dX2_finishTrick_148 (by  simp only [j_X2_finishTrick, if_pos c_1, if_pos c_2, if_pos c_6, if_neg c_7]) (by  simp only [j_X2_finishTrick_vdrawn, j_X2_finishTrick_vled, j_X2_finishTrick_vmov, j_X2_finishTrick_vw1, j_X2_finishTrick_vw2, j_X2_finishTrick_vh1, j_X2_finishTrick_vt1, j_X2_finishTrick_vp1, j_X2_finishTrick_vk1, j_X2_finishTrick_vg1, j_X2_finishTrick_vh2, j_X2_finishTrick_vt2, j_X2_finishTrick_vp2, j_X2_finishTrick_vk2, j_X2_finishTrick_vg2, if_pos c_1, if_pos c_2, if_pos c_6, if_neg c_7])
        · skip
          refine lv_aload_n hx hb dX2_finishTrick_143 rfl (lv_at hl 3 rfl) ?_
          refine jw_callVv (n := 0) (C := RX2) (As := []) (rest := []) (wr := []) (wn := [(a0, .inr (2, [.ref aR, .ref aF, .ref aG, .int (j_X2_drawFor_F_vdrawn (j_X2_drawFor_F_vdrawn vdrawn)), .int vtr, .int (-1), .int j_X2_endGame_vmov, .int (j_X2_endGame_vw1 vw1 (vp1 + ((j_X2_worth vled 1) + (j_X2_worth x0 1))) vp2), .int (j_X2_endGame_vw2 vw2 (vp1 + ((j_X2_worth vled 1) + (j_X2_worth x0 1))) vp2), va_rf veo, .int veb])), (aF, .inr (0, [.long (j_X2_drawFor_F_vh1 vrow (j_X2_drawFor_F_vdrawn vdrawn) (j_X2_drawFor_F_vh1 vrow vdrawn vh1)), .long (vt1 ||| ((j_X2_bit vled) ||| (j_X2_bit x0))), .int (vp1 + ((j_X2_worth vled 1) + (j_X2_worth x0 1))), .int (vk1 + 1), .int (j_X0_loseWornGloves_vg vg1)])), (aG, .inr (0, [.long vh2, .long vt2, .int vp2, .int vk2, .int (j_X0_loseWornGloves_vg vg2)])), (aR, .inl (cI, 42, .inl vrow))]) S (c_X2_endGame a0 aR aF aG cI vrow (j_X2_drawFor_F_vdrawn (j_X2_drawFor_F_vdrawn vdrawn)) vtr (-1) (j_X2_takerBy vtr vled vmov x0) vw1 vw2 veo veb (j_X2_drawFor_F_vh1 vrow (j_X2_drawFor_F_vdrawn vdrawn) (j_X2_drawFor_F_vh1 vrow vdrawn vh1)) (vt1 ||| ((j_X2_bit vled) ||| (j_X2_bit x0))) (vp1 + ((j_X2_worth vled 1) + (j_X2_worth x0 1))) (vk1 + 1) (j_X0_loseWornGloves_vg vg1) vh2 vt2 vp2 vk2 (j_X0_loseWornGloves_vg vg2)) gX2_finishTrick_X2_endGame rfl (by decide +kernel) rfl ⟨⟨rfl, rfl⟩, ⟨Nat.le_of_ble_eq_true rfl, Nat.le_of_ble_eq_true rfl⟩, Nat.le_of_ble_eq_true rfl, Nat.le_of_ble_eq_true rfl⟩ hP hK hN hD hS hA [0, 1, 2, 3] [] [0, 1, 2, 3] [0] rfl rfl ⟨rfl, rfl, rfl⟩ (by decide) rfl rfl 0 2 rfl rfl rfl (lv_nil hl) rfl (Nat.le_of_ble_eq_true rfl) dX2_finishTrick_144 (fun H locs hP hD hS => ?_)
          refine lv_iload_n hx hb dX2_finishTrick_147 rfl (lv_at hl 2 rfl) ?_
          exact jw_iret hx hb hr hlocks hK hP hD hS dX2_finishTrick_148 (by  simp only [j_X2_finishTrick, if_pos c_1, if_pos c_2, if_pos c_6, if_pos c_7]) (by  simp only [j_X2_finishTrick_vdrawn, j_X2_finishTrick_vled, j_X2_finishTrick_vmov, j_X2_finishTrick_vw1, j_X2_finishTrick_vw2, j_X2_finishTrick_vh1, j_X2_finishTrick_vt1, j_X2_finishTrick_vp1, j_X2_finishTrick_vk1, j_X2_finishTrick_vg1, j_X2_finishTrick_vh2, j_X2_finishTrick_vt2, j_X2_finishTrick_vp2, j_X2_finishTrick_vk2, j_X2_finishTrick_vg2, if_pos c_1, if_pos c_2, if_pos c_6, if_pos c_7])
      · skip
        refine jw_callVv (n := 1) (C := RX2) (As := [.ref aG]) (rest := []) (wr := []) (wn := [(a0, .inr (2, [.ref aR, .ref aF, .ref aG, .int (j_X2_drawFor_G_vdrawn (j_X2_drawFor_F_vdrawn vdrawn)), .int vtr, .int (-1), .int vmov, .int vw1, .int vw2, va_rf veo, .int veb])), (aF, .inr (0, [.long (j_X2_drawFor_F_vh1 vrow vdrawn vh1), .long (vt1 ||| ((j_X2_bit vled) ||| (j_X2_bit x0))), .int (vp1 + ((j_X2_worth vled 1) + (j_X2_worth x0 1))), .int (vk1 + 1), .int (j_X0_loseWornGloves_vg vg1)])), (aG, .inr (0, [.long (j_X2_drawFor_G_vh2 vrow (j_X2_drawFor_F_vdrawn vdrawn) vh2), .long vt2, .int vp2, .int vk2, .int (j_X0_loseWornGloves_vg vg2)])), (aR, .inl (cI, 42, .inl vrow))]) S (c_X2_drawFor_G a0 aR aF aG cI vrow (j_X2_drawFor_F_vdrawn vdrawn) vtr (-1) vmov vw1 vw2 veo veb (j_X2_drawFor_F_vh1 vrow vdrawn vh1) (vt1 ||| ((j_X2_bit vled) ||| (j_X2_bit x0))) (vp1 + ((j_X2_worth vled 1) + (j_X2_worth x0 1))) (vk1 + 1) (j_X0_loseWornGloves_vg vg1) vh2 vt2 vp2 vk2 (j_X0_loseWornGloves_vg vg2)) gX2_finishTrick_X2_drawFor rfl (by decide +kernel) rfl ⟨⟨rfl, rfl⟩, ⟨Nat.le_of_ble_eq_true rfl, Nat.le_of_ble_eq_true rfl⟩, Nat.le_of_ble_eq_true rfl, Nat.le_of_ble_eq_true rfl⟩ hP hK hN hD hS hA [0, 1, 2, 3] [] [0, 1, 2, 3] [0] rfl rfl ⟨rfl, rfl, rfl⟩ (by decide) rfl rfl 0 2 rfl rfl rfl (lv_nil hl) rfl (Nat.le_of_ble_eq_true rfl) dX2_finishTrick_115 (fun H locs hP hD hS => ?_)
        refine lv_aload_n hx hb dX2_finishTrick_118 rfl (lv_at hl 3 rfl) ?_
        refine lv_iload_n hx hb dX2_finishTrick_119 rfl (lv_at hl 2 rfl) ?_
        refine va_put (D := D) (ci := 2) (v := .int (j_X2_takerBy vtr vled vmov x0)) (ty := .int) (C := RX2) (T := TX2) (N := 11) hx hb hts inX2_finishTrick_X2 tyX2 tyX2_ok nmX2 hown hK hP hD hS 0 rfl rfl 6 (by decide) (hts (.fieldLink RX2 33 "ArchivistTricks" "mover" "I") (by decide +kernel)) (fun _ h9 => h9) rfl (by decide +kernel) rfl rfl (Nat.le_of_ble_eq_true rfl) dX2_finishTrick_120 (fun H locs hP hD hS => ?_)
        have hP : va_P D vwCl [(a0, .inr (2, [.ref aR, .ref aF, .ref aG, .int (j_X2_drawFor_G_vdrawn (j_X2_drawFor_F_vdrawn vdrawn)), .int vtr, .int (-1), .int (j_X2_takerBy vtr vled vmov x0), .int vw1, .int vw2, va_rf veo, .int veb])), (aF, .inr (0, [.long (j_X2_drawFor_F_vh1 vrow vdrawn vh1), .long (vt1 ||| ((j_X2_bit vled) ||| (j_X2_bit x0))), .int (vp1 + ((j_X2_worth vled 1) + (j_X2_worth x0 1))), .int (vk1 + 1), .int (j_X0_loseWornGloves_vg vg1)])), (aG, .inr (0, [.long (j_X2_drawFor_G_vh2 vrow (j_X2_drawFor_F_vdrawn vdrawn) vh2), .long vt2, .int vp2, .int vk2, .int (j_X0_loseWornGloves_vg vg2)])), (aR, .inl (cI, 42, .inl vrow))] H := hP
        have hD : va_D A [(a0, .inr (2, [.ref aR, .ref aF, .ref aG, .int (j_X2_drawFor_G_vdrawn (j_X2_drawFor_F_vdrawn vdrawn)), .int vtr, .int (-1), .int (j_X2_takerBy vtr vled vmov x0), .int vw1, .int vw2, va_rf veo, .int veb])), (aF, .inr (0, [.long (j_X2_drawFor_F_vh1 vrow vdrawn vh1), .long (vt1 ||| ((j_X2_bit vled) ||| (j_X2_bit x0))), .int (vp1 + ((j_X2_worth vled 1) + (j_X2_worth x0 1))), .int (vk1 + 1), .int (j_X0_loseWornGloves_vg vg1)])), (aG, .inr (0, [.long (j_X2_drawFor_G_vh2 vrow (j_X2_drawFor_F_vdrawn vdrawn) vh2), .long vt2, .int vp2, .int vk2, .int (j_X0_loseWornGloves_vg vg2)])), (aR, .inl (cI, 42, .inl vrow))] := hD
        refine lv_aload_n hx hb dX2_finishTrick_123 rfl (lv_at hl 3 rfl) ?_
        refine va_get (D := D) (ci := 2) (v := .ref aF) (C := RX2) (T := TX2) (N := 11) hx hb hts inX2_finishTrick_X2 hown hK hP 0 rfl rfl 1 (by decide) (hts (.fieldLink RX2 16 "ArchivistTricks" "first" "LArchivistTricks$Archivist;") (by decide +kernel)) (fun _ h9 => h9) rfl dX2_finishTrick_124 ?_
        refine va_get (D := D) (ci := 0) (v := .long (j_X2_drawFor_F_vh1 vrow vdrawn vh1)) (C := RX0) (T := TX0) (N := 5) hx hb hts inX2_finishTrick_X0 hown hK hP 1 rfl rfl 0 (by decide) (hts (.fieldLink RX2 91 "ArchivistTricks$Archivist" "hand" "J") (by decide +kernel)) (fun _ h9 => h9) rfl dX2_finishTrick_127 ?_
        refine lv_aload_n hx hb dX2_finishTrick_130 rfl (lv_at hl 3 rfl) ?_
        refine va_get (D := D) (ci := 2) (v := .ref aG) (C := RX2) (T := TX2) (N := 11) hx hb hts inX2_finishTrick_X2 hown hK hP 0 rfl rfl 2 (by decide) (hts (.fieldLink RX2 20 "ArchivistTricks" "second" "LArchivistTricks$Archivist;") (by decide +kernel)) (fun _ h9 => h9) rfl dX2_finishTrick_131 ?_
        refine va_get (D := D) (ci := 0) (v := .long (j_X2_drawFor_G_vh2 vrow (j_X2_drawFor_F_vdrawn vdrawn) vh2)) (C := RX0) (T := TX0) (N := 5) hx hb hts inX2_finishTrick_X0 hown hK hP 2 rfl rfl 0 (by decide) (hts (.fieldLink RX2 91 "ArchivistTricks$Archivist" "hand" "J") (by decide +kernel)) (fun _ h9 => h9) rfl dX2_finishTrick_134 ?_
        refine lv_lor hx hb dX2_finishTrick_137 ?_
        refine lv_lconst (v := 0) hx hb dX2_finishTrick_138 (by decide) ?_
        refine W.lcmp hx hb dX2_finishTrick_139 ?_
        refine lv_if_ne (tgt := 147) hx hb dX2_finishTrick_140 (by decide) (fun c_8 => ?_) (fun c_8 => ?_)
        · skip
          refine lv_iload_n hx hb dX2_finishTrick_147 rfl (lv_at hl 2 rfl) ?_
          exact jw_iret hx hb hr hlocks hK hP hD hS dX2_finishTrick_148 (by  simp only [j_X2_finishTrick, if_pos c_1, if_pos c_2, if_neg c_6, if_neg c_8]) (by  simp only [j_X2_finishTrick_vdrawn, j_X2_finishTrick_vled, j_X2_finishTrick_vmov, j_X2_finishTrick_vw1, j_X2_finishTrick_vw2, j_X2_finishTrick_vh1, j_X2_finishTrick_vt1, j_X2_finishTrick_vp1, j_X2_finishTrick_vk1, j_X2_finishTrick_vg1, j_X2_finishTrick_vh2, j_X2_finishTrick_vt2, j_X2_finishTrick_vp2, j_X2_finishTrick_vk2, j_X2_finishTrick_vg2, if_pos c_1, if_pos c_2, if_neg c_6, if_neg c_8])
        · skip
          refine lv_aload_n hx hb dX2_finishTrick_143 rfl (lv_at hl 3 rfl) ?_
          refine jw_callVv (n := 0) (C := RX2) (As := []) (rest := []) (wr := []) (wn := [(a0, .inr (2, [.ref aR, .ref aF, .ref aG, .int (j_X2_drawFor_G_vdrawn (j_X2_drawFor_F_vdrawn vdrawn)), .int vtr, .int (-1), .int j_X2_endGame_vmov, .int (j_X2_endGame_vw1 vw1 (vp1 + ((j_X2_worth vled 1) + (j_X2_worth x0 1))) vp2), .int (j_X2_endGame_vw2 vw2 (vp1 + ((j_X2_worth vled 1) + (j_X2_worth x0 1))) vp2), va_rf veo, .int veb])), (aF, .inr (0, [.long (j_X2_drawFor_F_vh1 vrow vdrawn vh1), .long (vt1 ||| ((j_X2_bit vled) ||| (j_X2_bit x0))), .int (vp1 + ((j_X2_worth vled 1) + (j_X2_worth x0 1))), .int (vk1 + 1), .int (j_X0_loseWornGloves_vg vg1)])), (aG, .inr (0, [.long (j_X2_drawFor_G_vh2 vrow (j_X2_drawFor_F_vdrawn vdrawn) vh2), .long vt2, .int vp2, .int vk2, .int (j_X0_loseWornGloves_vg vg2)])), (aR, .inl (cI, 42, .inl vrow))]) S (c_X2_endGame a0 aR aF aG cI vrow (j_X2_drawFor_G_vdrawn (j_X2_drawFor_F_vdrawn vdrawn)) vtr (-1) (j_X2_takerBy vtr vled vmov x0) vw1 vw2 veo veb (j_X2_drawFor_F_vh1 vrow vdrawn vh1) (vt1 ||| ((j_X2_bit vled) ||| (j_X2_bit x0))) (vp1 + ((j_X2_worth vled 1) + (j_X2_worth x0 1))) (vk1 + 1) (j_X0_loseWornGloves_vg vg1) (j_X2_drawFor_G_vh2 vrow (j_X2_drawFor_F_vdrawn vdrawn) vh2) vt2 vp2 vk2 (j_X0_loseWornGloves_vg vg2)) gX2_finishTrick_X2_endGame rfl (by decide +kernel) rfl ⟨⟨rfl, rfl⟩, ⟨Nat.le_of_ble_eq_true rfl, Nat.le_of_ble_eq_true rfl⟩, Nat.le_of_ble_eq_true rfl, Nat.le_of_ble_eq_true rfl⟩ hP hK hN hD hS hA [0, 1, 2, 3] [] [0, 1, 2, 3] [0] rfl rfl ⟨rfl, rfl, rfl⟩ (by decide) rfl rfl 0 2 rfl rfl rfl (lv_nil hl) rfl (Nat.le_of_ble_eq_true rfl) dX2_finishTrick_144 (fun H locs hP hD hS => ?_)
          refine lv_iload_n hx hb dX2_finishTrick_147 rfl (lv_at hl 2 rfl) ?_
          exact jw_iret hx hb hr hlocks hK hP hD hS dX2_finishTrick_148 (by  simp only [j_X2_finishTrick, if_pos c_1, if_pos c_2, if_neg c_6, if_pos c_8]) (by  simp only [j_X2_finishTrick_vdrawn, j_X2_finishTrick_vled, j_X2_finishTrick_vmov, j_X2_finishTrick_vw1, j_X2_finishTrick_vw2, j_X2_finishTrick_vh1, j_X2_finishTrick_vt1, j_X2_finishTrick_vp1, j_X2_finishTrick_vk1, j_X2_finishTrick_vg1, j_X2_finishTrick_vh2, j_X2_finishTrick_vt2, j_X2_finishTrick_vp2, j_X2_finishTrick_vk2, j_X2_finishTrick_vg2, if_pos c_1, if_pos c_2, if_neg c_6, if_pos c_8])
  · skip
    refine lv_astore_n (lv' := [(3, .ref aG), (2, .int (j_X2_takerBy vtr vled vmov x0)), (0, .ref a0), (1, .int x0)]) hx hb dX2_finishTrick_11 rfl hl (by decide) rfl (fun ls hl => ?_)
    refine lv_aload_n hx hb dX2_finishTrick_12 rfl (lv_at hl 0 rfl) ?_
    refine va_get (D := D) (ci := 0) (v := .int vg2) (C := RX0) (T := TX0) (N := 5) hx hb hts inX2_finishTrick_X0 hown hK hP 2 rfl rfl 4 (by decide) (hts (.fieldLink RX2 105 "ArchivistTricks$Archivist" "gloves" "I") (by decide +kernel)) (fun _ h9 => h9) rfl dX2_finishTrick_13 ?_
    refine lv_iconst (v := 1) hx hb dX2_finishTrick_16 (by decide) ?_
    refine lv_icmp_ne (tgt := 24) hx hb dX2_finishTrick_17 (by decide) (fun c_9 => ?_) (fun c_9 => ?_)
    · skip
      refine lv_iconst (v := 0) hx hb dX2_finishTrick_24 (by decide) ?_
      refine lv_istore (lv' := [(4, .int 0), (3, .ref aG), (2, .int (j_X2_takerBy vtr vled vmov x0)), (0, .ref a0), (1, .int x0)]) hx hb dX2_finishTrick_25 hl (by decide) rfl (fun ls hl => ?_)
      refine lv_aload_n hx hb dX2_finishTrick_27 rfl (lv_at hl 1 rfl) ?_
      refine lv_dup hx hb dX2_finishTrick_28 rfl ?_
      refine va_get (D := D) (ci := 0) (v := .int vp2) (C := RX0) (T := TX0) (N := 5) hx hb hts inX2_finishTrick_X0 hown hK hP 2 rfl rfl 2 (by decide) (hts (.fieldLink RX2 133 "ArchivistTricks$Archivist" "points" "I") (by decide +kernel)) (fun _ h9 => h9) rfl dX2_finishTrick_29 ?_
      refine lv_aload_n hx hb dX2_finishTrick_32 rfl (lv_at hl 3 rfl) ?_
      refine va_get (D := D) (ci := 2) (v := .int vled) (C := RX2) (T := TX2) (N := 11) hx hb hts inX2_finishTrick_X2 hown hK hP 0 rfl rfl 5 (by decide) (hts (.fieldLink RX2 30 "ArchivistTricks" "ledCard" "I") (by decide +kernel)) (fun _ h9 => h9) rfl dX2_finishTrick_33 ?_
      refine lv_iload hx hb dX2_finishTrick_36 (lv_at hl 0 rfl) ?_
      refine jr_callS (n := 2) (As := [.int vled, .int 0]) (rest := [.int vp2, .ref aG]) S (c_X2_worth vled 0) gX2_finishTrick_X2_worth rfl (by decide +kernel) rfl ⟨⟨rfl, rfl⟩, ⟨Nat.le_of_ble_eq_true rfl, Nat.le_of_ble_eq_true rfl⟩, Nat.le_of_ble_eq_true rfl, Nat.le_of_ble_eq_true rfl⟩ hP hK hN [] [] rfl rfl (lv_nil hl) rfl (Nat.le_of_ble_eq_true rfl) dX2_finishTrick_38 ?_
      refine lv_iload_n hx hb dX2_finishTrick_41 rfl (lv_at hl 4 rfl) ?_
      refine lv_iload hx hb dX2_finishTrick_42 (lv_at hl 0 rfl) ?_
      refine jr_callS (n := 2) (As := [.int x0, .int 0]) (rest := [.int (j_X2_worth vled 0), .int vp2, .ref aG]) S (c_X2_worth x0 0) gX2_finishTrick_X2_worth rfl (by decide +kernel) rfl ⟨⟨rfl, rfl⟩, ⟨Nat.le_of_ble_eq_true rfl, Nat.le_of_ble_eq_true rfl⟩, Nat.le_of_ble_eq_true rfl, Nat.le_of_ble_eq_true rfl⟩ hP hK hN [] [] rfl rfl (lv_nil hl) rfl (Nat.le_of_ble_eq_true rfl) dX2_finishTrick_44 ?_
      refine lv_iadd hx hb dX2_finishTrick_47 ?_
      refine lv_iadd hx hb dX2_finishTrick_48 ?_
      refine va_put (D := D) (ci := 0) (v := .int (vp2 + ((j_X2_worth vled 0) + (j_X2_worth x0 0)))) (ty := .int) (C := RX0) (T := TX0) (N := 5) hx hb hts inX2_finishTrick_X0 tyX0 tyX0_ok nmX0 hown hK hP hD hS 2 rfl rfl 2 (by decide) (hts (.fieldLink RX2 133 "ArchivistTricks$Archivist" "points" "I") (by decide +kernel)) (fun _ h9 => h9) rfl (by decide +kernel) rfl rfl (Nat.le_of_ble_eq_true rfl) dX2_finishTrick_49 (fun H locs hP hD hS => ?_)
      have hP : va_P D vwCl [(a0, .inr (2, [.ref aR, .ref aF, .ref aG, .int vdrawn, .int vtr, .int vled, .int vmov, .int vw1, .int vw2, va_rf veo, .int veb])), (aF, .inr (0, [.long vh1, .long vt1, .int vp1, .int vk1, .int vg1])), (aG, .inr (0, [.long vh2, .long vt2, .int (vp2 + ((j_X2_worth vled 0) + (j_X2_worth x0 0))), .int vk2, .int vg2])), (aR, .inl (cI, 42, .inl vrow))] H := hP
      have hD : va_D A [(a0, .inr (2, [.ref aR, .ref aF, .ref aG, .int vdrawn, .int vtr, .int vled, .int vmov, .int vw1, .int vw2, va_rf veo, .int veb])), (aF, .inr (0, [.long vh1, .long vt1, .int vp1, .int vk1, .int vg1])), (aG, .inr (0, [.long vh2, .long vt2, .int (vp2 + ((j_X2_worth vled 0) + (j_X2_worth x0 0))), .int vk2, .int vg2])), (aR, .inl (cI, 42, .inl vrow))] := hD
      refine lv_aload_n hx hb dX2_finishTrick_52 rfl (lv_at hl 1 rfl) ?_
      refine lv_dup hx hb dX2_finishTrick_53 rfl ?_
      refine va_get (D := D) (ci := 0) (v := .int vk2) (C := RX0) (T := TX0) (N := 5) hx hb hts inX2_finishTrick_X0 hown hK hP 2 rfl rfl 3 (by decide) (hts (.fieldLink RX2 136 "ArchivistTricks$Archivist" "tricks" "I") (by decide +kernel)) (fun _ h9 => h9) rfl dX2_finishTrick_54 ?_
      refine lv_iconst (v := 1) hx hb dX2_finishTrick_57 (by decide) ?_
      refine lv_iadd hx hb dX2_finishTrick_58 ?_
      refine va_put (D := D) (ci := 0) (v := .int (vk2 + 1)) (ty := .int) (C := RX0) (T := TX0) (N := 5) hx hb hts inX2_finishTrick_X0 tyX0 tyX0_ok nmX0 hown hK hP hD hS 2 rfl rfl 3 (by decide) (hts (.fieldLink RX2 136 "ArchivistTricks$Archivist" "tricks" "I") (by decide +kernel)) (fun _ h9 => h9) rfl (by decide +kernel) rfl rfl (Nat.le_of_ble_eq_true rfl) dX2_finishTrick_59 (fun H locs hP hD hS => ?_)
      have hP : va_P D vwCl [(a0, .inr (2, [.ref aR, .ref aF, .ref aG, .int vdrawn, .int vtr, .int vled, .int vmov, .int vw1, .int vw2, va_rf veo, .int veb])), (aF, .inr (0, [.long vh1, .long vt1, .int vp1, .int vk1, .int vg1])), (aG, .inr (0, [.long vh2, .long vt2, .int (vp2 + ((j_X2_worth vled 0) + (j_X2_worth x0 0))), .int (vk2 + 1), .int vg2])), (aR, .inl (cI, 42, .inl vrow))] H := hP
      have hD : va_D A [(a0, .inr (2, [.ref aR, .ref aF, .ref aG, .int vdrawn, .int vtr, .int vled, .int vmov, .int vw1, .int vw2, va_rf veo, .int veb])), (aF, .inr (0, [.long vh1, .long vt1, .int vp1, .int vk1, .int vg1])), (aG, .inr (0, [.long vh2, .long vt2, .int (vp2 + ((j_X2_worth vled 0) + (j_X2_worth x0 0))), .int (vk2 + 1), .int vg2])), (aR, .inl (cI, 42, .inl vrow))] := hD
      refine lv_aload_n hx hb dX2_finishTrick_62 rfl (lv_at hl 1 rfl) ?_
      refine lv_dup hx hb dX2_finishTrick_63 rfl ?_
      refine va_get (D := D) (ci := 0) (v := .long vt2) (C := RX0) (T := TX0) (N := 5) hx hb hts inX2_finishTrick_X0 hown hK hP 2 rfl rfl 1 (by decide) (hts (.fieldLink RX2 130 "ArchivistTricks$Archivist" "taken" "J") (by decide +kernel)) (fun _ h9 => h9) rfl dX2_finishTrick_64 ?_
      refine lv_aload_n hx hb dX2_finishTrick_67 rfl (lv_at hl 3 rfl) ?_
      refine va_get (D := D) (ci := 2) (v := .int vled) (C := RX2) (T := TX2) (N := 11) hx hb hts inX2_finishTrick_X2 hown hK hP 0 rfl rfl 5 (by decide) (hts (.fieldLink RX2 30 "ArchivistTricks" "ledCard" "I") (by decide +kernel)) (fun _ h9 => h9) rfl dX2_finishTrick_68 ?_
      refine jr_callS (n := 1) (As := [.int vled]) (rest := [.long vt2, .ref aG]) S (c_X2_bit vled) gX2_finishTrick_X2_bit rfl (by decide +kernel) rfl ⟨⟨rfl, rfl⟩, ⟨Nat.le_of_ble_eq_true rfl, Nat.le_of_ble_eq_true rfl⟩, Nat.le_of_ble_eq_true rfl, Nat.le_of_ble_eq_true rfl⟩ hP hK hN [] [] rfl rfl (lv_nil hl) rfl (Nat.le_of_ble_eq_true rfl) dX2_finishTrick_71 ?_
      refine lv_iload_n hx hb dX2_finishTrick_74 rfl (lv_at hl 4 rfl) ?_
      refine jr_callS (n := 1) (As := [.int x0]) (rest := [.long (j_X2_bit vled), .long vt2, .ref aG]) S (c_X2_bit x0) gX2_finishTrick_X2_bit rfl (by decide +kernel) rfl ⟨⟨rfl, rfl⟩, ⟨Nat.le_of_ble_eq_true rfl, Nat.le_of_ble_eq_true rfl⟩, Nat.le_of_ble_eq_true rfl, Nat.le_of_ble_eq_true rfl⟩ hP hK hN [] [] rfl rfl (lv_nil hl) rfl (Nat.le_of_ble_eq_true rfl) dX2_finishTrick_75 ?_
      refine lv_lor hx hb dX2_finishTrick_78 ?_
      refine lv_lor hx hb dX2_finishTrick_79 ?_
      refine va_put (D := D) (ci := 0) (v := .long (vt2 ||| ((j_X2_bit vled) ||| (j_X2_bit x0)))) (ty := .long) (C := RX0) (T := TX0) (N := 5) hx hb hts inX2_finishTrick_X0 tyX0 tyX0_ok nmX0 hown hK hP hD hS 2 rfl rfl 1 (by decide) (hts (.fieldLink RX2 130 "ArchivistTricks$Archivist" "taken" "J") (by decide +kernel)) (fun _ h9 => h9) rfl (by decide +kernel) rfl rfl (Nat.le_of_ble_eq_true rfl) dX2_finishTrick_80 (fun H locs hP hD hS => ?_)
      have hP : va_P D vwCl [(a0, .inr (2, [.ref aR, .ref aF, .ref aG, .int vdrawn, .int vtr, .int vled, .int vmov, .int vw1, .int vw2, va_rf veo, .int veb])), (aF, .inr (0, [.long vh1, .long vt1, .int vp1, .int vk1, .int vg1])), (aG, .inr (0, [.long vh2, .long (vt2 ||| ((j_X2_bit vled) ||| (j_X2_bit x0))), .int (vp2 + ((j_X2_worth vled 0) + (j_X2_worth x0 0))), .int (vk2 + 1), .int vg2])), (aR, .inl (cI, 42, .inl vrow))] H := hP
      have hD : va_D A [(a0, .inr (2, [.ref aR, .ref aF, .ref aG, .int vdrawn, .int vtr, .int vled, .int vmov, .int vw1, .int vw2, va_rf veo, .int veb])), (aF, .inr (0, [.long vh1, .long vt1, .int vp1, .int vk1, .int vg1])), (aG, .inr (0, [.long vh2, .long (vt2 ||| ((j_X2_bit vled) ||| (j_X2_bit x0))), .int (vp2 + ((j_X2_worth vled 0) + (j_X2_worth x0 0))), .int (vk2 + 1), .int vg2])), (aR, .inl (cI, 42, .inl vrow))] := hD
      refine lv_aload_n hx hb dX2_finishTrick_83 rfl (lv_at hl 3 rfl) ?_
      refine va_get (D := D) (ci := 2) (v := .ref aF) (C := RX2) (T := TX2) (N := 11) hx hb hts inX2_finishTrick_X2 hown hK hP 0 rfl rfl 1 (by decide) (hts (.fieldLink RX2 16 "ArchivistTricks" "first" "LArchivistTricks$Archivist;") (by decide +kernel)) (fun _ h9 => h9) rfl dX2_finishTrick_84 ?_
      refine jw_callVv (n := 0) (C := RX0) (As := []) (rest := []) (wr := [(a0, .inr (2, [.ref aR, .ref aF, .ref aG, .int vdrawn, .int vtr, .int vled, .int vmov, .int vw1, .int vw2, va_rf veo, .int veb])), (aG, .inr (0, [.long vh2, .long (vt2 ||| ((j_X2_bit vled) ||| (j_X2_bit x0))), .int (vp2 + ((j_X2_worth vled 0) + (j_X2_worth x0 0))), .int (vk2 + 1), .int vg2])), (aR, .inl (cI, 42, .inl vrow))]) (wn := [(a0, .inr (2, [.ref aR, .ref aF, .ref aG, .int vdrawn, .int vtr, .int vled, .int vmov, .int vw1, .int vw2, va_rf veo, .int veb])), (aF, .inr (0, [.long vh1, .long vt1, .int vp1, .int vk1, .int (j_X0_loseWornGloves_vg vg1)])), (aG, .inr (0, [.long vh2, .long (vt2 ||| ((j_X2_bit vled) ||| (j_X2_bit x0))), .int (vp2 + ((j_X2_worth vled 0) + (j_X2_worth x0 0))), .int (vk2 + 1), .int vg2])), (aR, .inl (cI, 42, .inl vrow))]) S (c_X0_loseWornGloves aF vh1 vt1 vp1 vk1 vg1) gX2_finishTrick_X0_loseWornGloves rfl (by decide +kernel) rfl ⟨⟨rfl, rfl⟩, ⟨Nat.le_of_ble_eq_true rfl, Nat.le_of_ble_eq_true rfl⟩, Nat.le_of_ble_eq_true rfl, Nat.le_of_ble_eq_true rfl⟩ hP hK hN hD hS hA [1] [0, 2, 3] [0, 3, 1, 2] [] rfl rfl ⟨rfl, rfl, rfl⟩ (by decide) rfl rfl 0 0 rfl rfl rfl (lv_nil hl) rfl (Nat.le_of_ble_eq_true rfl) dX2_finishTrick_87 (fun H locs hP hD hS => ?_)
      refine lv_aload_n hx hb dX2_finishTrick_90 rfl (lv_at hl 3 rfl) ?_
      refine va_get (D := D) (ci := 2) (v := .ref aG) (C := RX2) (T := TX2) (N := 11) hx hb hts inX2_finishTrick_X2 hown hK hP 0 rfl rfl 2 (by decide) (hts (.fieldLink RX2 20 "ArchivistTricks" "second" "LArchivistTricks$Archivist;") (by decide +kernel)) (fun _ h9 => h9) rfl dX2_finishTrick_91 ?_
      refine jw_callVv (n := 0) (C := RX0) (As := []) (rest := []) (wr := [(a0, .inr (2, [.ref aR, .ref aF, .ref aG, .int vdrawn, .int vtr, .int vled, .int vmov, .int vw1, .int vw2, va_rf veo, .int veb])), (aF, .inr (0, [.long vh1, .long vt1, .int vp1, .int vk1, .int (j_X0_loseWornGloves_vg vg1)])), (aR, .inl (cI, 42, .inl vrow))]) (wn := [(a0, .inr (2, [.ref aR, .ref aF, .ref aG, .int vdrawn, .int vtr, .int vled, .int vmov, .int vw1, .int vw2, va_rf veo, .int veb])), (aF, .inr (0, [.long vh1, .long vt1, .int vp1, .int vk1, .int (j_X0_loseWornGloves_vg vg1)])), (aG, .inr (0, [.long vh2, .long (vt2 ||| ((j_X2_bit vled) ||| (j_X2_bit x0))), .int (vp2 + ((j_X2_worth vled 0) + (j_X2_worth x0 0))), .int (vk2 + 1), .int (j_X0_loseWornGloves_vg vg2)])), (aR, .inl (cI, 42, .inl vrow))]) S (c_X0_loseWornGloves aG vh2 (vt2 ||| ((j_X2_bit vled) ||| (j_X2_bit x0))) (vp2 + ((j_X2_worth vled 0) + (j_X2_worth x0 0))) (vk2 + 1) vg2) gX2_finishTrick_X0_loseWornGloves rfl (by decide +kernel) rfl ⟨⟨rfl, rfl⟩, ⟨Nat.le_of_ble_eq_true rfl, Nat.le_of_ble_eq_true rfl⟩, Nat.le_of_ble_eq_true rfl, Nat.le_of_ble_eq_true rfl⟩ hP hK hN hD hS hA [2] [0, 1, 3] [0, 1, 3, 2] [] rfl rfl ⟨rfl, rfl, rfl⟩ (by decide) rfl rfl 0 0 rfl rfl rfl (lv_nil hl) rfl (Nat.le_of_ble_eq_true rfl) dX2_finishTrick_94 (fun H locs hP hD hS => ?_)
      refine lv_aload_n hx hb dX2_finishTrick_97 rfl (lv_at hl 3 rfl) ?_
      refine lv_iconst (v := (-1)) hx hb dX2_finishTrick_98 (by decide) ?_
      refine va_put (D := D) (ci := 2) (v := .int (-1)) (ty := .int) (C := RX2) (T := TX2) (N := 11) hx hb hts inX2_finishTrick_X2 tyX2 tyX2_ok nmX2 hown hK hP hD hS 0 rfl rfl 5 (by decide) (hts (.fieldLink RX2 30 "ArchivistTricks" "ledCard" "I") (by decide +kernel)) (fun _ h9 => h9) rfl (by decide +kernel) rfl rfl (Nat.le_of_ble_eq_true rfl) dX2_finishTrick_99 (fun H locs hP hD hS => ?_)
      have hP : va_P D vwCl [(a0, .inr (2, [.ref aR, .ref aF, .ref aG, .int vdrawn, .int vtr, .int (-1), .int vmov, .int vw1, .int vw2, va_rf veo, .int veb])), (aF, .inr (0, [.long vh1, .long vt1, .int vp1, .int vk1, .int (j_X0_loseWornGloves_vg vg1)])), (aG, .inr (0, [.long vh2, .long (vt2 ||| ((j_X2_bit vled) ||| (j_X2_bit x0))), .int (vp2 + ((j_X2_worth vled 0) + (j_X2_worth x0 0))), .int (vk2 + 1), .int (j_X0_loseWornGloves_vg vg2)])), (aR, .inl (cI, 42, .inl vrow))] H := hP
      have hD : va_D A [(a0, .inr (2, [.ref aR, .ref aF, .ref aG, .int vdrawn, .int vtr, .int (-1), .int vmov, .int vw1, .int vw2, va_rf veo, .int veb])), (aF, .inr (0, [.long vh1, .long vt1, .int vp1, .int vk1, .int (j_X0_loseWornGloves_vg vg1)])), (aG, .inr (0, [.long vh2, .long (vt2 ||| ((j_X2_bit vled) ||| (j_X2_bit x0))), .int (vp2 + ((j_X2_worth vled 0) + (j_X2_worth x0 0))), .int (vk2 + 1), .int (j_X0_loseWornGloves_vg vg2)])), (aR, .inl (cI, 42, .inl vrow))] := hD
      refine lv_aload_n hx hb dX2_finishTrick_102 rfl (lv_at hl 3 rfl) ?_
      refine lv_aload_n hx hb dX2_finishTrick_103 rfl (lv_at hl 1 rfl) ?_
      refine jw_callVv (n := 1) (C := RX2) (As := [.ref aG]) (rest := []) (wr := []) (wn := [(a0, .inr (2, [.ref aR, .ref aF, .ref aG, .int (j_X2_drawFor_G_vdrawn vdrawn), .int vtr, .int (-1), .int vmov, .int vw1, .int vw2, va_rf veo, .int veb])), (aF, .inr (0, [.long vh1, .long vt1, .int vp1, .int vk1, .int (j_X0_loseWornGloves_vg vg1)])), (aG, .inr (0, [.long (j_X2_drawFor_G_vh2 vrow vdrawn vh2), .long (vt2 ||| ((j_X2_bit vled) ||| (j_X2_bit x0))), .int (vp2 + ((j_X2_worth vled 0) + (j_X2_worth x0 0))), .int (vk2 + 1), .int (j_X0_loseWornGloves_vg vg2)])), (aR, .inl (cI, 42, .inl vrow))]) S (c_X2_drawFor_G a0 aR aF aG cI vrow vdrawn vtr (-1) vmov vw1 vw2 veo veb vh1 vt1 vp1 vk1 (j_X0_loseWornGloves_vg vg1) vh2 (vt2 ||| ((j_X2_bit vled) ||| (j_X2_bit x0))) (vp2 + ((j_X2_worth vled 0) + (j_X2_worth x0 0))) (vk2 + 1) (j_X0_loseWornGloves_vg vg2)) gX2_finishTrick_X2_drawFor rfl (by decide +kernel) rfl ⟨⟨rfl, rfl⟩, ⟨Nat.le_of_ble_eq_true rfl, Nat.le_of_ble_eq_true rfl⟩, Nat.le_of_ble_eq_true rfl, Nat.le_of_ble_eq_true rfl⟩ hP hK hN hD hS hA [0, 1, 2, 3] [] [0, 1, 2, 3] [0] rfl rfl ⟨rfl, rfl, rfl⟩ (by decide) rfl rfl 0 2 rfl rfl rfl (lv_nil hl) rfl (Nat.le_of_ble_eq_true rfl) dX2_finishTrick_104 (fun H locs hP hD hS => ?_)
      refine lv_aload_n hx hb dX2_finishTrick_107 rfl (lv_at hl 3 rfl) ?_
      refine lv_aload_n hx hb dX2_finishTrick_108 rfl (lv_at hl 3 rfl) ?_
      refine lv_iconst (v := 1) hx hb dX2_finishTrick_109 (by decide) ?_
      refine lv_iload_n hx hb dX2_finishTrick_110 rfl (lv_at hl 2 rfl) ?_
      refine lv_isub hx hb dX2_finishTrick_111 ?_
      refine jr_callV (n := 1) (C := RX2) (As := [.int (1 - (j_X2_takerBy vtr vled vmov x0))]) (rest := [.ref a0]) S (c_X2_archivist a0 aR aF aG cI vrow (j_X2_drawFor_G_vdrawn vdrawn) vtr (-1) vmov vw1 vw2 veo veb vh1 vt1 vp1 vk1 (j_X0_loseWornGloves_vg vg1) (j_X2_drawFor_G_vh2 vrow vdrawn vh2) (vt2 ||| ((j_X2_bit vled) ||| (j_X2_bit x0))) (vp2 + ((j_X2_worth vled 0) + (j_X2_worth x0 0))) (vk2 + 1) (j_X0_loseWornGloves_vg vg2) (1 - (j_X2_takerBy vtr vled vmov x0))) gX2_finishTrick_X2_archivist rfl (by decide +kernel) rfl ⟨⟨rfl, rfl⟩, ⟨Nat.le_of_ble_eq_true rfl, Nat.le_of_ble_eq_true rfl⟩, Nat.le_of_ble_eq_true rfl, Nat.le_of_ble_eq_true rfl⟩ hP hK hN [0, 1, 2, 3] [0] rfl rfl 0 2 rfl rfl rfl (lv_nil hl) rfl (Nat.le_of_ble_eq_true rfl) dX2_finishTrick_112 ?_
      refine jr_ite (c0 := (1 - (j_X2_takerBy vtr vled vmov x0)) = 0) (a := aF) (b := aG) rfl (fun c_10 => ?_) (fun c_10 => ?_)
      · skip
        refine jw_callVv (n := 1) (C := RX2) (As := [.ref aF]) (rest := []) (wr := []) (wn := [(a0, .inr (2, [.ref aR, .ref aF, .ref aG, .int (j_X2_drawFor_F_vdrawn (j_X2_drawFor_G_vdrawn vdrawn)), .int vtr, .int (-1), .int vmov, .int vw1, .int vw2, va_rf veo, .int veb])), (aF, .inr (0, [.long (j_X2_drawFor_F_vh1 vrow (j_X2_drawFor_G_vdrawn vdrawn) vh1), .long vt1, .int vp1, .int vk1, .int (j_X0_loseWornGloves_vg vg1)])), (aG, .inr (0, [.long (j_X2_drawFor_G_vh2 vrow vdrawn vh2), .long (vt2 ||| ((j_X2_bit vled) ||| (j_X2_bit x0))), .int (vp2 + ((j_X2_worth vled 0) + (j_X2_worth x0 0))), .int (vk2 + 1), .int (j_X0_loseWornGloves_vg vg2)])), (aR, .inl (cI, 42, .inl vrow))]) S (c_X2_drawFor_F a0 aR aF aG cI vrow (j_X2_drawFor_G_vdrawn vdrawn) vtr (-1) vmov vw1 vw2 veo veb vh1 vt1 vp1 vk1 (j_X0_loseWornGloves_vg vg1) (j_X2_drawFor_G_vh2 vrow vdrawn vh2) (vt2 ||| ((j_X2_bit vled) ||| (j_X2_bit x0))) (vp2 + ((j_X2_worth vled 0) + (j_X2_worth x0 0))) (vk2 + 1) (j_X0_loseWornGloves_vg vg2)) gX2_finishTrick_X2_drawFor rfl (by decide +kernel) rfl ⟨⟨rfl, rfl⟩, ⟨Nat.le_of_ble_eq_true rfl, Nat.le_of_ble_eq_true rfl⟩, Nat.le_of_ble_eq_true rfl, Nat.le_of_ble_eq_true rfl⟩ hP hK hN hD hS hA [0, 1, 2, 3] [] [0, 1, 2, 3] [0] rfl rfl ⟨rfl, rfl, rfl⟩ (by decide) rfl rfl 0 2 rfl rfl rfl (lv_nil hl) rfl (Nat.le_of_ble_eq_true rfl) dX2_finishTrick_115 (fun H locs hP hD hS => ?_)
        refine lv_aload_n hx hb dX2_finishTrick_118 rfl (lv_at hl 3 rfl) ?_
        refine lv_iload_n hx hb dX2_finishTrick_119 rfl (lv_at hl 2 rfl) ?_
        refine va_put (D := D) (ci := 2) (v := .int (j_X2_takerBy vtr vled vmov x0)) (ty := .int) (C := RX2) (T := TX2) (N := 11) hx hb hts inX2_finishTrick_X2 tyX2 tyX2_ok nmX2 hown hK hP hD hS 0 rfl rfl 6 (by decide) (hts (.fieldLink RX2 33 "ArchivistTricks" "mover" "I") (by decide +kernel)) (fun _ h9 => h9) rfl (by decide +kernel) rfl rfl (Nat.le_of_ble_eq_true rfl) dX2_finishTrick_120 (fun H locs hP hD hS => ?_)
        have hP : va_P D vwCl [(a0, .inr (2, [.ref aR, .ref aF, .ref aG, .int (j_X2_drawFor_F_vdrawn (j_X2_drawFor_G_vdrawn vdrawn)), .int vtr, .int (-1), .int (j_X2_takerBy vtr vled vmov x0), .int vw1, .int vw2, va_rf veo, .int veb])), (aF, .inr (0, [.long (j_X2_drawFor_F_vh1 vrow (j_X2_drawFor_G_vdrawn vdrawn) vh1), .long vt1, .int vp1, .int vk1, .int (j_X0_loseWornGloves_vg vg1)])), (aG, .inr (0, [.long (j_X2_drawFor_G_vh2 vrow vdrawn vh2), .long (vt2 ||| ((j_X2_bit vled) ||| (j_X2_bit x0))), .int (vp2 + ((j_X2_worth vled 0) + (j_X2_worth x0 0))), .int (vk2 + 1), .int (j_X0_loseWornGloves_vg vg2)])), (aR, .inl (cI, 42, .inl vrow))] H := hP
        have hD : va_D A [(a0, .inr (2, [.ref aR, .ref aF, .ref aG, .int (j_X2_drawFor_F_vdrawn (j_X2_drawFor_G_vdrawn vdrawn)), .int vtr, .int (-1), .int (j_X2_takerBy vtr vled vmov x0), .int vw1, .int vw2, va_rf veo, .int veb])), (aF, .inr (0, [.long (j_X2_drawFor_F_vh1 vrow (j_X2_drawFor_G_vdrawn vdrawn) vh1), .long vt1, .int vp1, .int vk1, .int (j_X0_loseWornGloves_vg vg1)])), (aG, .inr (0, [.long (j_X2_drawFor_G_vh2 vrow vdrawn vh2), .long (vt2 ||| ((j_X2_bit vled) ||| (j_X2_bit x0))), .int (vp2 + ((j_X2_worth vled 0) + (j_X2_worth x0 0))), .int (vk2 + 1), .int (j_X0_loseWornGloves_vg vg2)])), (aR, .inl (cI, 42, .inl vrow))] := hD
        refine lv_aload_n hx hb dX2_finishTrick_123 rfl (lv_at hl 3 rfl) ?_
        refine va_get (D := D) (ci := 2) (v := .ref aF) (C := RX2) (T := TX2) (N := 11) hx hb hts inX2_finishTrick_X2 hown hK hP 0 rfl rfl 1 (by decide) (hts (.fieldLink RX2 16 "ArchivistTricks" "first" "LArchivistTricks$Archivist;") (by decide +kernel)) (fun _ h9 => h9) rfl dX2_finishTrick_124 ?_
        refine va_get (D := D) (ci := 0) (v := .long (j_X2_drawFor_F_vh1 vrow (j_X2_drawFor_G_vdrawn vdrawn) vh1)) (C := RX0) (T := TX0) (N := 5) hx hb hts inX2_finishTrick_X0 hown hK hP 1 rfl rfl 0 (by decide) (hts (.fieldLink RX2 91 "ArchivistTricks$Archivist" "hand" "J") (by decide +kernel)) (fun _ h9 => h9) rfl dX2_finishTrick_127 ?_
        refine lv_aload_n hx hb dX2_finishTrick_130 rfl (lv_at hl 3 rfl) ?_
        refine va_get (D := D) (ci := 2) (v := .ref aG) (C := RX2) (T := TX2) (N := 11) hx hb hts inX2_finishTrick_X2 hown hK hP 0 rfl rfl 2 (by decide) (hts (.fieldLink RX2 20 "ArchivistTricks" "second" "LArchivistTricks$Archivist;") (by decide +kernel)) (fun _ h9 => h9) rfl dX2_finishTrick_131 ?_
        refine va_get (D := D) (ci := 0) (v := .long (j_X2_drawFor_G_vh2 vrow vdrawn vh2)) (C := RX0) (T := TX0) (N := 5) hx hb hts inX2_finishTrick_X0 hown hK hP 2 rfl rfl 0 (by decide) (hts (.fieldLink RX2 91 "ArchivistTricks$Archivist" "hand" "J") (by decide +kernel)) (fun _ h9 => h9) rfl dX2_finishTrick_134 ?_
        refine lv_lor hx hb dX2_finishTrick_137 ?_
        refine lv_lconst (v := 0) hx hb dX2_finishTrick_138 (by decide) ?_
        refine W.lcmp hx hb dX2_finishTrick_139 ?_
        refine lv_if_ne (tgt := 147) hx hb dX2_finishTrick_140 (by decide) (fun c_11 => ?_) (fun c_11 => ?_)
        · skip
          refine lv_iload_n hx hb dX2_finishTrick_147 rfl (lv_at hl 2 rfl) ?_
          exact jw_iret hx hb hr hlocks hK hP hD hS dX2_finishTrick_148 (by  simp only [j_X2_finishTrick, if_neg c_1, if_neg c_9, if_pos c_10, if_neg c_11]) (by  simp only [j_X2_finishTrick_vdrawn, j_X2_finishTrick_vled, j_X2_finishTrick_vmov, j_X2_finishTrick_vw1, j_X2_finishTrick_vw2, j_X2_finishTrick_vh1, j_X2_finishTrick_vt1, j_X2_finishTrick_vp1, j_X2_finishTrick_vk1, j_X2_finishTrick_vg1, j_X2_finishTrick_vh2, j_X2_finishTrick_vt2, j_X2_finishTrick_vp2, j_X2_finishTrick_vk2, j_X2_finishTrick_vg2, if_neg c_1, if_neg c_9, if_pos c_10, if_neg c_11])
        · skip
          refine lv_aload_n hx hb dX2_finishTrick_143 rfl (lv_at hl 3 rfl) ?_
          refine jw_callVv (n := 0) (C := RX2) (As := []) (rest := []) (wr := []) (wn := [(a0, .inr (2, [.ref aR, .ref aF, .ref aG, .int (j_X2_drawFor_F_vdrawn (j_X2_drawFor_G_vdrawn vdrawn)), .int vtr, .int (-1), .int j_X2_endGame_vmov, .int (j_X2_endGame_vw1 vw1 vp1 (vp2 + ((j_X2_worth vled 0) + (j_X2_worth x0 0)))), .int (j_X2_endGame_vw2 vw2 vp1 (vp2 + ((j_X2_worth vled 0) + (j_X2_worth x0 0)))), va_rf veo, .int veb])), (aF, .inr (0, [.long (j_X2_drawFor_F_vh1 vrow (j_X2_drawFor_G_vdrawn vdrawn) vh1), .long vt1, .int vp1, .int vk1, .int (j_X0_loseWornGloves_vg vg1)])), (aG, .inr (0, [.long (j_X2_drawFor_G_vh2 vrow vdrawn vh2), .long (vt2 ||| ((j_X2_bit vled) ||| (j_X2_bit x0))), .int (vp2 + ((j_X2_worth vled 0) + (j_X2_worth x0 0))), .int (vk2 + 1), .int (j_X0_loseWornGloves_vg vg2)])), (aR, .inl (cI, 42, .inl vrow))]) S (c_X2_endGame a0 aR aF aG cI vrow (j_X2_drawFor_F_vdrawn (j_X2_drawFor_G_vdrawn vdrawn)) vtr (-1) (j_X2_takerBy vtr vled vmov x0) vw1 vw2 veo veb (j_X2_drawFor_F_vh1 vrow (j_X2_drawFor_G_vdrawn vdrawn) vh1) vt1 vp1 vk1 (j_X0_loseWornGloves_vg vg1) (j_X2_drawFor_G_vh2 vrow vdrawn vh2) (vt2 ||| ((j_X2_bit vled) ||| (j_X2_bit x0))) (vp2 + ((j_X2_worth vled 0) + (j_X2_worth x0 0))) (vk2 + 1) (j_X0_loseWornGloves_vg vg2)) gX2_finishTrick_X2_endGame rfl (by decide +kernel) rfl ⟨⟨rfl, rfl⟩, ⟨Nat.le_of_ble_eq_true rfl, Nat.le_of_ble_eq_true rfl⟩, Nat.le_of_ble_eq_true rfl, Nat.le_of_ble_eq_true rfl⟩ hP hK hN hD hS hA [0, 1, 2, 3] [] [0, 1, 2, 3] [0] rfl rfl ⟨rfl, rfl, rfl⟩ (by decide) rfl rfl 0 2 rfl rfl rfl (lv_nil hl) rfl (Nat.le_of_ble_eq_true rfl) dX2_finishTrick_144 (fun H locs hP hD hS => ?_)
          refine lv_iload_n hx hb dX2_finishTrick_147 rfl (lv_at hl 2 rfl) ?_
          exact jw_iret hx hb hr hlocks hK hP hD hS dX2_finishTrick_148 (by  simp only [j_X2_finishTrick, if_neg c_1, if_neg c_9, if_pos c_10, if_pos c_11]) (by  simp only [j_X2_finishTrick_vdrawn, j_X2_finishTrick_vled, j_X2_finishTrick_vmov, j_X2_finishTrick_vw1, j_X2_finishTrick_vw2, j_X2_finishTrick_vh1, j_X2_finishTrick_vt1, j_X2_finishTrick_vp1, j_X2_finishTrick_vk1, j_X2_finishTrick_vg1, j_X2_finishTrick_vh2, j_X2_finishTrick_vt2, j_X2_finishTrick_vp2, j_X2_finishTrick_vk2, j_X2_finishTrick_vg2, if_neg c_1, if_neg c_9, if_pos c_10, if_pos c_11])
      · skip
        refine jw_callVv (n := 1) (C := RX2) (As := [.ref aG]) (rest := []) (wr := []) (wn := [(a0, .inr (2, [.ref aR, .ref aF, .ref aG, .int (j_X2_drawFor_G_vdrawn (j_X2_drawFor_G_vdrawn vdrawn)), .int vtr, .int (-1), .int vmov, .int vw1, .int vw2, va_rf veo, .int veb])), (aF, .inr (0, [.long vh1, .long vt1, .int vp1, .int vk1, .int (j_X0_loseWornGloves_vg vg1)])), (aG, .inr (0, [.long (j_X2_drawFor_G_vh2 vrow (j_X2_drawFor_G_vdrawn vdrawn) (j_X2_drawFor_G_vh2 vrow vdrawn vh2)), .long (vt2 ||| ((j_X2_bit vled) ||| (j_X2_bit x0))), .int (vp2 + ((j_X2_worth vled 0) + (j_X2_worth x0 0))), .int (vk2 + 1), .int (j_X0_loseWornGloves_vg vg2)])), (aR, .inl (cI, 42, .inl vrow))]) S (c_X2_drawFor_G a0 aR aF aG cI vrow (j_X2_drawFor_G_vdrawn vdrawn) vtr (-1) vmov vw1 vw2 veo veb vh1 vt1 vp1 vk1 (j_X0_loseWornGloves_vg vg1) (j_X2_drawFor_G_vh2 vrow vdrawn vh2) (vt2 ||| ((j_X2_bit vled) ||| (j_X2_bit x0))) (vp2 + ((j_X2_worth vled 0) + (j_X2_worth x0 0))) (vk2 + 1) (j_X0_loseWornGloves_vg vg2)) gX2_finishTrick_X2_drawFor rfl (by decide +kernel) rfl ⟨⟨rfl, rfl⟩, ⟨Nat.le_of_ble_eq_true rfl, Nat.le_of_ble_eq_true rfl⟩, Nat.le_of_ble_eq_true rfl, Nat.le_of_ble_eq_true rfl⟩ hP hK hN hD hS hA [0, 1, 2, 3] [] [0, 1, 2, 3] [0] rfl rfl ⟨rfl, rfl, rfl⟩ (by decide) rfl rfl 0 2 rfl rfl rfl (lv_nil hl) rfl (Nat.le_of_ble_eq_true rfl) dX2_finishTrick_115 (fun H locs hP hD hS => ?_)
        refine lv_aload_n hx hb dX2_finishTrick_118 rfl (lv_at hl 3 rfl) ?_
        refine lv_iload_n hx hb dX2_finishTrick_119 rfl (lv_at hl 2 rfl) ?_
        refine va_put (D := D) (ci := 2) (v := .int (j_X2_takerBy vtr vled vmov x0)) (ty := .int) (C := RX2) (T := TX2) (N := 11) hx hb hts inX2_finishTrick_X2 tyX2 tyX2_ok nmX2 hown hK hP hD hS 0 rfl rfl 6 (by decide) (hts (.fieldLink RX2 33 "ArchivistTricks" "mover" "I") (by decide +kernel)) (fun _ h9 => h9) rfl (by decide +kernel) rfl rfl (Nat.le_of_ble_eq_true rfl) dX2_finishTrick_120 (fun H locs hP hD hS => ?_)
        have hP : va_P D vwCl [(a0, .inr (2, [.ref aR, .ref aF, .ref aG, .int (j_X2_drawFor_G_vdrawn (j_X2_drawFor_G_vdrawn vdrawn)), .int vtr, .int (-1), .int (j_X2_takerBy vtr vled vmov x0), .int vw1, .int vw2, va_rf veo, .int veb])), (aF, .inr (0, [.long vh1, .long vt1, .int vp1, .int vk1, .int (j_X0_loseWornGloves_vg vg1)])), (aG, .inr (0, [.long (j_X2_drawFor_G_vh2 vrow (j_X2_drawFor_G_vdrawn vdrawn) (j_X2_drawFor_G_vh2 vrow vdrawn vh2)), .long (vt2 ||| ((j_X2_bit vled) ||| (j_X2_bit x0))), .int (vp2 + ((j_X2_worth vled 0) + (j_X2_worth x0 0))), .int (vk2 + 1), .int (j_X0_loseWornGloves_vg vg2)])), (aR, .inl (cI, 42, .inl vrow))] H := hP
        have hD : va_D A [(a0, .inr (2, [.ref aR, .ref aF, .ref aG, .int (j_X2_drawFor_G_vdrawn (j_X2_drawFor_G_vdrawn vdrawn)), .int vtr, .int (-1), .int (j_X2_takerBy vtr vled vmov x0), .int vw1, .int vw2, va_rf veo, .int veb])), (aF, .inr (0, [.long vh1, .long vt1, .int vp1, .int vk1, .int (j_X0_loseWornGloves_vg vg1)])), (aG, .inr (0, [.long (j_X2_drawFor_G_vh2 vrow (j_X2_drawFor_G_vdrawn vdrawn) (j_X2_drawFor_G_vh2 vrow vdrawn vh2)), .long (vt2 ||| ((j_X2_bit vled) ||| (j_X2_bit x0))), .int (vp2 + ((j_X2_worth vled 0) + (j_X2_worth x0 0))), .int (vk2 + 1), .int (j_X0_loseWornGloves_vg vg2)])), (aR, .inl (cI, 42, .inl vrow))] := hD
        refine lv_aload_n hx hb dX2_finishTrick_123 rfl (lv_at hl 3 rfl) ?_
        refine va_get (D := D) (ci := 2) (v := .ref aF) (C := RX2) (T := TX2) (N := 11) hx hb hts inX2_finishTrick_X2 hown hK hP 0 rfl rfl 1 (by decide) (hts (.fieldLink RX2 16 "ArchivistTricks" "first" "LArchivistTricks$Archivist;") (by decide +kernel)) (fun _ h9 => h9) rfl dX2_finishTrick_124 ?_
        refine va_get (D := D) (ci := 0) (v := .long vh1) (C := RX0) (T := TX0) (N := 5) hx hb hts inX2_finishTrick_X0 hown hK hP 1 rfl rfl 0 (by decide) (hts (.fieldLink RX2 91 "ArchivistTricks$Archivist" "hand" "J") (by decide +kernel)) (fun _ h9 => h9) rfl dX2_finishTrick_127 ?_
        refine lv_aload_n hx hb dX2_finishTrick_130 rfl (lv_at hl 3 rfl) ?_
        refine va_get (D := D) (ci := 2) (v := .ref aG) (C := RX2) (T := TX2) (N := 11) hx hb hts inX2_finishTrick_X2 hown hK hP 0 rfl rfl 2 (by decide) (hts (.fieldLink RX2 20 "ArchivistTricks" "second" "LArchivistTricks$Archivist;") (by decide +kernel)) (fun _ h9 => h9) rfl dX2_finishTrick_131 ?_
        refine va_get (D := D) (ci := 0) (v := .long (j_X2_drawFor_G_vh2 vrow (j_X2_drawFor_G_vdrawn vdrawn) (j_X2_drawFor_G_vh2 vrow vdrawn vh2))) (C := RX0) (T := TX0) (N := 5) hx hb hts inX2_finishTrick_X0 hown hK hP 2 rfl rfl 0 (by decide) (hts (.fieldLink RX2 91 "ArchivistTricks$Archivist" "hand" "J") (by decide +kernel)) (fun _ h9 => h9) rfl dX2_finishTrick_134 ?_
        refine lv_lor hx hb dX2_finishTrick_137 ?_
        refine lv_lconst (v := 0) hx hb dX2_finishTrick_138 (by decide) ?_
        refine W.lcmp hx hb dX2_finishTrick_139 ?_
        refine lv_if_ne (tgt := 147) hx hb dX2_finishTrick_140 (by decide) (fun c_12 => ?_) (fun c_12 => ?_)
        · skip
          refine lv_iload_n hx hb dX2_finishTrick_147 rfl (lv_at hl 2 rfl) ?_
          exact jw_iret hx hb hr hlocks hK hP hD hS dX2_finishTrick_148 (by  simp only [j_X2_finishTrick, if_neg c_1, if_neg c_9, if_neg c_10, if_neg c_12]) (by  simp only [j_X2_finishTrick_vdrawn, j_X2_finishTrick_vled, j_X2_finishTrick_vmov, j_X2_finishTrick_vw1, j_X2_finishTrick_vw2, j_X2_finishTrick_vh1, j_X2_finishTrick_vt1, j_X2_finishTrick_vp1, j_X2_finishTrick_vk1, j_X2_finishTrick_vg1, j_X2_finishTrick_vh2, j_X2_finishTrick_vt2, j_X2_finishTrick_vp2, j_X2_finishTrick_vk2, j_X2_finishTrick_vg2, if_neg c_1, if_neg c_9, if_neg c_10, if_neg c_12])
        · skip
          refine lv_aload_n hx hb dX2_finishTrick_143 rfl (lv_at hl 3 rfl) ?_
          refine jw_callVv (n := 0) (C := RX2) (As := []) (rest := []) (wr := []) (wn := [(a0, .inr (2, [.ref aR, .ref aF, .ref aG, .int (j_X2_drawFor_G_vdrawn (j_X2_drawFor_G_vdrawn vdrawn)), .int vtr, .int (-1), .int j_X2_endGame_vmov, .int (j_X2_endGame_vw1 vw1 vp1 (vp2 + ((j_X2_worth vled 0) + (j_X2_worth x0 0)))), .int (j_X2_endGame_vw2 vw2 vp1 (vp2 + ((j_X2_worth vled 0) + (j_X2_worth x0 0)))), va_rf veo, .int veb])), (aF, .inr (0, [.long vh1, .long vt1, .int vp1, .int vk1, .int (j_X0_loseWornGloves_vg vg1)])), (aG, .inr (0, [.long (j_X2_drawFor_G_vh2 vrow (j_X2_drawFor_G_vdrawn vdrawn) (j_X2_drawFor_G_vh2 vrow vdrawn vh2)), .long (vt2 ||| ((j_X2_bit vled) ||| (j_X2_bit x0))), .int (vp2 + ((j_X2_worth vled 0) + (j_X2_worth x0 0))), .int (vk2 + 1), .int (j_X0_loseWornGloves_vg vg2)])), (aR, .inl (cI, 42, .inl vrow))]) S (c_X2_endGame a0 aR aF aG cI vrow (j_X2_drawFor_G_vdrawn (j_X2_drawFor_G_vdrawn vdrawn)) vtr (-1) (j_X2_takerBy vtr vled vmov x0) vw1 vw2 veo veb vh1 vt1 vp1 vk1 (j_X0_loseWornGloves_vg vg1) (j_X2_drawFor_G_vh2 vrow (j_X2_drawFor_G_vdrawn vdrawn) (j_X2_drawFor_G_vh2 vrow vdrawn vh2)) (vt2 ||| ((j_X2_bit vled) ||| (j_X2_bit x0))) (vp2 + ((j_X2_worth vled 0) + (j_X2_worth x0 0))) (vk2 + 1) (j_X0_loseWornGloves_vg vg2)) gX2_finishTrick_X2_endGame rfl (by decide +kernel) rfl ⟨⟨rfl, rfl⟩, ⟨Nat.le_of_ble_eq_true rfl, Nat.le_of_ble_eq_true rfl⟩, Nat.le_of_ble_eq_true rfl, Nat.le_of_ble_eq_true rfl⟩ hP hK hN hD hS hA [0, 1, 2, 3] [] [0, 1, 2, 3] [0] rfl rfl ⟨rfl, rfl, rfl⟩ (by decide) rfl rfl 0 2 rfl rfl rfl (lv_nil hl) rfl (Nat.le_of_ble_eq_true rfl) dX2_finishTrick_144 (fun H locs hP hD hS => ?_)
          refine lv_iload_n hx hb dX2_finishTrick_147 rfl (lv_at hl 2 rfl) ?_
          exact jw_iret hx hb hr hlocks hK hP hD hS dX2_finishTrick_148 (by  simp only [j_X2_finishTrick, if_neg c_1, if_neg c_9, if_neg c_10, if_pos c_12]) (by  simp only [j_X2_finishTrick_vdrawn, j_X2_finishTrick_vled, j_X2_finishTrick_vmov, j_X2_finishTrick_vw1, j_X2_finishTrick_vw2, j_X2_finishTrick_vh1, j_X2_finishTrick_vt1, j_X2_finishTrick_vp1, j_X2_finishTrick_vk1, j_X2_finishTrick_vg1, j_X2_finishTrick_vh2, j_X2_finishTrick_vt2, j_X2_finishTrick_vp2, j_X2_finishTrick_vk2, j_X2_finishTrick_vg2, if_neg c_1, if_neg c_9, if_neg c_10, if_pos c_12])
    · skip
      refine lv_iconst (v := 1) hx hb dX2_finishTrick_20 (by decide) ?_
      refine lv_goto (tgt := 25) hx hb dX2_finishTrick_21 (by decide) ?_
      refine lv_istore (lv' := [(4, .int 1), (3, .ref aG), (2, .int (j_X2_takerBy vtr vled vmov x0)), (0, .ref a0), (1, .int x0)]) hx hb dX2_finishTrick_25 hl (by decide) rfl (fun ls hl => ?_)
      refine lv_aload_n hx hb dX2_finishTrick_27 rfl (lv_at hl 1 rfl) ?_
      refine lv_dup hx hb dX2_finishTrick_28 rfl ?_
      refine va_get (D := D) (ci := 0) (v := .int vp2) (C := RX0) (T := TX0) (N := 5) hx hb hts inX2_finishTrick_X0 hown hK hP 2 rfl rfl 2 (by decide) (hts (.fieldLink RX2 133 "ArchivistTricks$Archivist" "points" "I") (by decide +kernel)) (fun _ h9 => h9) rfl dX2_finishTrick_29 ?_
      refine lv_aload_n hx hb dX2_finishTrick_32 rfl (lv_at hl 3 rfl) ?_
      refine va_get (D := D) (ci := 2) (v := .int vled) (C := RX2) (T := TX2) (N := 11) hx hb hts inX2_finishTrick_X2 hown hK hP 0 rfl rfl 5 (by decide) (hts (.fieldLink RX2 30 "ArchivistTricks" "ledCard" "I") (by decide +kernel)) (fun _ h9 => h9) rfl dX2_finishTrick_33 ?_
      refine lv_iload hx hb dX2_finishTrick_36 (lv_at hl 0 rfl) ?_
      refine jr_callS (n := 2) (As := [.int vled, .int 1]) (rest := [.int vp2, .ref aG]) S (c_X2_worth vled 1) gX2_finishTrick_X2_worth rfl (by decide +kernel) rfl ⟨⟨rfl, rfl⟩, ⟨Nat.le_of_ble_eq_true rfl, Nat.le_of_ble_eq_true rfl⟩, Nat.le_of_ble_eq_true rfl, Nat.le_of_ble_eq_true rfl⟩ hP hK hN [] [] rfl rfl (lv_nil hl) rfl (Nat.le_of_ble_eq_true rfl) dX2_finishTrick_38 ?_
      refine lv_iload_n hx hb dX2_finishTrick_41 rfl (lv_at hl 4 rfl) ?_
      refine lv_iload hx hb dX2_finishTrick_42 (lv_at hl 0 rfl) ?_
      refine jr_callS (n := 2) (As := [.int x0, .int 1]) (rest := [.int (j_X2_worth vled 1), .int vp2, .ref aG]) S (c_X2_worth x0 1) gX2_finishTrick_X2_worth rfl (by decide +kernel) rfl ⟨⟨rfl, rfl⟩, ⟨Nat.le_of_ble_eq_true rfl, Nat.le_of_ble_eq_true rfl⟩, Nat.le_of_ble_eq_true rfl, Nat.le_of_ble_eq_true rfl⟩ hP hK hN [] [] rfl rfl (lv_nil hl) rfl (Nat.le_of_ble_eq_true rfl) dX2_finishTrick_44 ?_
      refine lv_iadd hx hb dX2_finishTrick_47 ?_
      refine lv_iadd hx hb dX2_finishTrick_48 ?_
      refine va_put (D := D) (ci := 0) (v := .int (vp2 + ((j_X2_worth vled 1) + (j_X2_worth x0 1)))) (ty := .int) (C := RX0) (T := TX0) (N := 5) hx hb hts inX2_finishTrick_X0 tyX0 tyX0_ok nmX0 hown hK hP hD hS 2 rfl rfl 2 (by decide) (hts (.fieldLink RX2 133 "ArchivistTricks$Archivist" "points" "I") (by decide +kernel)) (fun _ h9 => h9) rfl (by decide +kernel) rfl rfl (Nat.le_of_ble_eq_true rfl) dX2_finishTrick_49 (fun H locs hP hD hS => ?_)
      have hP : va_P D vwCl [(a0, .inr (2, [.ref aR, .ref aF, .ref aG, .int vdrawn, .int vtr, .int vled, .int vmov, .int vw1, .int vw2, va_rf veo, .int veb])), (aF, .inr (0, [.long vh1, .long vt1, .int vp1, .int vk1, .int vg1])), (aG, .inr (0, [.long vh2, .long vt2, .int (vp2 + ((j_X2_worth vled 1) + (j_X2_worth x0 1))), .int vk2, .int vg2])), (aR, .inl (cI, 42, .inl vrow))] H := hP
      have hD : va_D A [(a0, .inr (2, [.ref aR, .ref aF, .ref aG, .int vdrawn, .int vtr, .int vled, .int vmov, .int vw1, .int vw2, va_rf veo, .int veb])), (aF, .inr (0, [.long vh1, .long vt1, .int vp1, .int vk1, .int vg1])), (aG, .inr (0, [.long vh2, .long vt2, .int (vp2 + ((j_X2_worth vled 1) + (j_X2_worth x0 1))), .int vk2, .int vg2])), (aR, .inl (cI, 42, .inl vrow))] := hD
      refine lv_aload_n hx hb dX2_finishTrick_52 rfl (lv_at hl 1 rfl) ?_
      refine lv_dup hx hb dX2_finishTrick_53 rfl ?_
      refine va_get (D := D) (ci := 0) (v := .int vk2) (C := RX0) (T := TX0) (N := 5) hx hb hts inX2_finishTrick_X0 hown hK hP 2 rfl rfl 3 (by decide) (hts (.fieldLink RX2 136 "ArchivistTricks$Archivist" "tricks" "I") (by decide +kernel)) (fun _ h9 => h9) rfl dX2_finishTrick_54 ?_
      refine lv_iconst (v := 1) hx hb dX2_finishTrick_57 (by decide) ?_
      refine lv_iadd hx hb dX2_finishTrick_58 ?_
      refine va_put (D := D) (ci := 0) (v := .int (vk2 + 1)) (ty := .int) (C := RX0) (T := TX0) (N := 5) hx hb hts inX2_finishTrick_X0 tyX0 tyX0_ok nmX0 hown hK hP hD hS 2 rfl rfl 3 (by decide) (hts (.fieldLink RX2 136 "ArchivistTricks$Archivist" "tricks" "I") (by decide +kernel)) (fun _ h9 => h9) rfl (by decide +kernel) rfl rfl (Nat.le_of_ble_eq_true rfl) dX2_finishTrick_59 (fun H locs hP hD hS => ?_)
      have hP : va_P D vwCl [(a0, .inr (2, [.ref aR, .ref aF, .ref aG, .int vdrawn, .int vtr, .int vled, .int vmov, .int vw1, .int vw2, va_rf veo, .int veb])), (aF, .inr (0, [.long vh1, .long vt1, .int vp1, .int vk1, .int vg1])), (aG, .inr (0, [.long vh2, .long vt2, .int (vp2 + ((j_X2_worth vled 1) + (j_X2_worth x0 1))), .int (vk2 + 1), .int vg2])), (aR, .inl (cI, 42, .inl vrow))] H := hP
      have hD : va_D A [(a0, .inr (2, [.ref aR, .ref aF, .ref aG, .int vdrawn, .int vtr, .int vled, .int vmov, .int vw1, .int vw2, va_rf veo, .int veb])), (aF, .inr (0, [.long vh1, .long vt1, .int vp1, .int vk1, .int vg1])), (aG, .inr (0, [.long vh2, .long vt2, .int (vp2 + ((j_X2_worth vled 1) + (j_X2_worth x0 1))), .int (vk2 + 1), .int vg2])), (aR, .inl (cI, 42, .inl vrow))] := hD
      refine lv_aload_n hx hb dX2_finishTrick_62 rfl (lv_at hl 1 rfl) ?_
      refine lv_dup hx hb dX2_finishTrick_63 rfl ?_
      refine va_get (D := D) (ci := 0) (v := .long vt2) (C := RX0) (T := TX0) (N := 5) hx hb hts inX2_finishTrick_X0 hown hK hP 2 rfl rfl 1 (by decide) (hts (.fieldLink RX2 130 "ArchivistTricks$Archivist" "taken" "J") (by decide +kernel)) (fun _ h9 => h9) rfl dX2_finishTrick_64 ?_
      refine lv_aload_n hx hb dX2_finishTrick_67 rfl (lv_at hl 3 rfl) ?_
      refine va_get (D := D) (ci := 2) (v := .int vled) (C := RX2) (T := TX2) (N := 11) hx hb hts inX2_finishTrick_X2 hown hK hP 0 rfl rfl 5 (by decide) (hts (.fieldLink RX2 30 "ArchivistTricks" "ledCard" "I") (by decide +kernel)) (fun _ h9 => h9) rfl dX2_finishTrick_68 ?_
      refine jr_callS (n := 1) (As := [.int vled]) (rest := [.long vt2, .ref aG]) S (c_X2_bit vled) gX2_finishTrick_X2_bit rfl (by decide +kernel) rfl ⟨⟨rfl, rfl⟩, ⟨Nat.le_of_ble_eq_true rfl, Nat.le_of_ble_eq_true rfl⟩, Nat.le_of_ble_eq_true rfl, Nat.le_of_ble_eq_true rfl⟩ hP hK hN [] [] rfl rfl (lv_nil hl) rfl (Nat.le_of_ble_eq_true rfl) dX2_finishTrick_71 ?_
      refine lv_iload_n hx hb dX2_finishTrick_74 rfl (lv_at hl 4 rfl) ?_
      refine jr_callS (n := 1) (As := [.int x0]) (rest := [.long (j_X2_bit vled), .long vt2, .ref aG]) S (c_X2_bit x0) gX2_finishTrick_X2_bit rfl (by decide +kernel) rfl ⟨⟨rfl, rfl⟩, ⟨Nat.le_of_ble_eq_true rfl, Nat.le_of_ble_eq_true rfl⟩, Nat.le_of_ble_eq_true rfl, Nat.le_of_ble_eq_true rfl⟩ hP hK hN [] [] rfl rfl (lv_nil hl) rfl (Nat.le_of_ble_eq_true rfl) dX2_finishTrick_75 ?_
      refine lv_lor hx hb dX2_finishTrick_78 ?_
      refine lv_lor hx hb dX2_finishTrick_79 ?_
      refine va_put (D := D) (ci := 0) (v := .long (vt2 ||| ((j_X2_bit vled) ||| (j_X2_bit x0)))) (ty := .long) (C := RX0) (T := TX0) (N := 5) hx hb hts inX2_finishTrick_X0 tyX0 tyX0_ok nmX0 hown hK hP hD hS 2 rfl rfl 1 (by decide) (hts (.fieldLink RX2 130 "ArchivistTricks$Archivist" "taken" "J") (by decide +kernel)) (fun _ h9 => h9) rfl (by decide +kernel) rfl rfl (Nat.le_of_ble_eq_true rfl) dX2_finishTrick_80 (fun H locs hP hD hS => ?_)
      have hP : va_P D vwCl [(a0, .inr (2, [.ref aR, .ref aF, .ref aG, .int vdrawn, .int vtr, .int vled, .int vmov, .int vw1, .int vw2, va_rf veo, .int veb])), (aF, .inr (0, [.long vh1, .long vt1, .int vp1, .int vk1, .int vg1])), (aG, .inr (0, [.long vh2, .long (vt2 ||| ((j_X2_bit vled) ||| (j_X2_bit x0))), .int (vp2 + ((j_X2_worth vled 1) + (j_X2_worth x0 1))), .int (vk2 + 1), .int vg2])), (aR, .inl (cI, 42, .inl vrow))] H := hP
      have hD : va_D A [(a0, .inr (2, [.ref aR, .ref aF, .ref aG, .int vdrawn, .int vtr, .int vled, .int vmov, .int vw1, .int vw2, va_rf veo, .int veb])), (aF, .inr (0, [.long vh1, .long vt1, .int vp1, .int vk1, .int vg1])), (aG, .inr (0, [.long vh2, .long (vt2 ||| ((j_X2_bit vled) ||| (j_X2_bit x0))), .int (vp2 + ((j_X2_worth vled 1) + (j_X2_worth x0 1))), .int (vk2 + 1), .int vg2])), (aR, .inl (cI, 42, .inl vrow))] := hD
      refine lv_aload_n hx hb dX2_finishTrick_83 rfl (lv_at hl 3 rfl) ?_
      refine va_get (D := D) (ci := 2) (v := .ref aF) (C := RX2) (T := TX2) (N := 11) hx hb hts inX2_finishTrick_X2 hown hK hP 0 rfl rfl 1 (by decide) (hts (.fieldLink RX2 16 "ArchivistTricks" "first" "LArchivistTricks$Archivist;") (by decide +kernel)) (fun _ h9 => h9) rfl dX2_finishTrick_84 ?_
      refine jw_callVv (n := 0) (C := RX0) (As := []) (rest := []) (wr := [(a0, .inr (2, [.ref aR, .ref aF, .ref aG, .int vdrawn, .int vtr, .int vled, .int vmov, .int vw1, .int vw2, va_rf veo, .int veb])), (aG, .inr (0, [.long vh2, .long (vt2 ||| ((j_X2_bit vled) ||| (j_X2_bit x0))), .int (vp2 + ((j_X2_worth vled 1) + (j_X2_worth x0 1))), .int (vk2 + 1), .int vg2])), (aR, .inl (cI, 42, .inl vrow))]) (wn := [(a0, .inr (2, [.ref aR, .ref aF, .ref aG, .int vdrawn, .int vtr, .int vled, .int vmov, .int vw1, .int vw2, va_rf veo, .int veb])), (aF, .inr (0, [.long vh1, .long vt1, .int vp1, .int vk1, .int (j_X0_loseWornGloves_vg vg1)])), (aG, .inr (0, [.long vh2, .long (vt2 ||| ((j_X2_bit vled) ||| (j_X2_bit x0))), .int (vp2 + ((j_X2_worth vled 1) + (j_X2_worth x0 1))), .int (vk2 + 1), .int vg2])), (aR, .inl (cI, 42, .inl vrow))]) S (c_X0_loseWornGloves aF vh1 vt1 vp1 vk1 vg1) gX2_finishTrick_X0_loseWornGloves rfl (by decide +kernel) rfl ⟨⟨rfl, rfl⟩, ⟨Nat.le_of_ble_eq_true rfl, Nat.le_of_ble_eq_true rfl⟩, Nat.le_of_ble_eq_true rfl, Nat.le_of_ble_eq_true rfl⟩ hP hK hN hD hS hA [1] [0, 2, 3] [0, 3, 1, 2] [] rfl rfl ⟨rfl, rfl, rfl⟩ (by decide) rfl rfl 0 0 rfl rfl rfl (lv_nil hl) rfl (Nat.le_of_ble_eq_true rfl) dX2_finishTrick_87 (fun H locs hP hD hS => ?_)
      refine lv_aload_n hx hb dX2_finishTrick_90 rfl (lv_at hl 3 rfl) ?_
      refine va_get (D := D) (ci := 2) (v := .ref aG) (C := RX2) (T := TX2) (N := 11) hx hb hts inX2_finishTrick_X2 hown hK hP 0 rfl rfl 2 (by decide) (hts (.fieldLink RX2 20 "ArchivistTricks" "second" "LArchivistTricks$Archivist;") (by decide +kernel)) (fun _ h9 => h9) rfl dX2_finishTrick_91 ?_
      refine jw_callVv (n := 0) (C := RX0) (As := []) (rest := []) (wr := [(a0, .inr (2, [.ref aR, .ref aF, .ref aG, .int vdrawn, .int vtr, .int vled, .int vmov, .int vw1, .int vw2, va_rf veo, .int veb])), (aF, .inr (0, [.long vh1, .long vt1, .int vp1, .int vk1, .int (j_X0_loseWornGloves_vg vg1)])), (aR, .inl (cI, 42, .inl vrow))]) (wn := [(a0, .inr (2, [.ref aR, .ref aF, .ref aG, .int vdrawn, .int vtr, .int vled, .int vmov, .int vw1, .int vw2, va_rf veo, .int veb])), (aF, .inr (0, [.long vh1, .long vt1, .int vp1, .int vk1, .int (j_X0_loseWornGloves_vg vg1)])), (aG, .inr (0, [.long vh2, .long (vt2 ||| ((j_X2_bit vled) ||| (j_X2_bit x0))), .int (vp2 + ((j_X2_worth vled 1) + (j_X2_worth x0 1))), .int (vk2 + 1), .int (j_X0_loseWornGloves_vg vg2)])), (aR, .inl (cI, 42, .inl vrow))]) S (c_X0_loseWornGloves aG vh2 (vt2 ||| ((j_X2_bit vled) ||| (j_X2_bit x0))) (vp2 + ((j_X2_worth vled 1) + (j_X2_worth x0 1))) (vk2 + 1) vg2) gX2_finishTrick_X0_loseWornGloves rfl (by decide +kernel) rfl ⟨⟨rfl, rfl⟩, ⟨Nat.le_of_ble_eq_true rfl, Nat.le_of_ble_eq_true rfl⟩, Nat.le_of_ble_eq_true rfl, Nat.le_of_ble_eq_true rfl⟩ hP hK hN hD hS hA [2] [0, 1, 3] [0, 1, 3, 2] [] rfl rfl ⟨rfl, rfl, rfl⟩ (by decide) rfl rfl 0 0 rfl rfl rfl (lv_nil hl) rfl (Nat.le_of_ble_eq_true rfl) dX2_finishTrick_94 (fun H locs hP hD hS => ?_)
      refine lv_aload_n hx hb dX2_finishTrick_97 rfl (lv_at hl 3 rfl) ?_
      refine lv_iconst (v := (-1)) hx hb dX2_finishTrick_98 (by decide) ?_
      refine va_put (D := D) (ci := 2) (v := .int (-1)) (ty := .int) (C := RX2) (T := TX2) (N := 11) hx hb hts inX2_finishTrick_X2 tyX2 tyX2_ok nmX2 hown hK hP hD hS 0 rfl rfl 5 (by decide) (hts (.fieldLink RX2 30 "ArchivistTricks" "ledCard" "I") (by decide +kernel)) (fun _ h9 => h9) rfl (by decide +kernel) rfl rfl (Nat.le_of_ble_eq_true rfl) dX2_finishTrick_99 (fun H locs hP hD hS => ?_)
      have hP : va_P D vwCl [(a0, .inr (2, [.ref aR, .ref aF, .ref aG, .int vdrawn, .int vtr, .int (-1), .int vmov, .int vw1, .int vw2, va_rf veo, .int veb])), (aF, .inr (0, [.long vh1, .long vt1, .int vp1, .int vk1, .int (j_X0_loseWornGloves_vg vg1)])), (aG, .inr (0, [.long vh2, .long (vt2 ||| ((j_X2_bit vled) ||| (j_X2_bit x0))), .int (vp2 + ((j_X2_worth vled 1) + (j_X2_worth x0 1))), .int (vk2 + 1), .int (j_X0_loseWornGloves_vg vg2)])), (aR, .inl (cI, 42, .inl vrow))] H := hP
      have hD : va_D A [(a0, .inr (2, [.ref aR, .ref aF, .ref aG, .int vdrawn, .int vtr, .int (-1), .int vmov, .int vw1, .int vw2, va_rf veo, .int veb])), (aF, .inr (0, [.long vh1, .long vt1, .int vp1, .int vk1, .int (j_X0_loseWornGloves_vg vg1)])), (aG, .inr (0, [.long vh2, .long (vt2 ||| ((j_X2_bit vled) ||| (j_X2_bit x0))), .int (vp2 + ((j_X2_worth vled 1) + (j_X2_worth x0 1))), .int (vk2 + 1), .int (j_X0_loseWornGloves_vg vg2)])), (aR, .inl (cI, 42, .inl vrow))] := hD
      refine lv_aload_n hx hb dX2_finishTrick_102 rfl (lv_at hl 3 rfl) ?_
      refine lv_aload_n hx hb dX2_finishTrick_103 rfl (lv_at hl 1 rfl) ?_
      refine jw_callVv (n := 1) (C := RX2) (As := [.ref aG]) (rest := []) (wr := []) (wn := [(a0, .inr (2, [.ref aR, .ref aF, .ref aG, .int (j_X2_drawFor_G_vdrawn vdrawn), .int vtr, .int (-1), .int vmov, .int vw1, .int vw2, va_rf veo, .int veb])), (aF, .inr (0, [.long vh1, .long vt1, .int vp1, .int vk1, .int (j_X0_loseWornGloves_vg vg1)])), (aG, .inr (0, [.long (j_X2_drawFor_G_vh2 vrow vdrawn vh2), .long (vt2 ||| ((j_X2_bit vled) ||| (j_X2_bit x0))), .int (vp2 + ((j_X2_worth vled 1) + (j_X2_worth x0 1))), .int (vk2 + 1), .int (j_X0_loseWornGloves_vg vg2)])), (aR, .inl (cI, 42, .inl vrow))]) S (c_X2_drawFor_G a0 aR aF aG cI vrow vdrawn vtr (-1) vmov vw1 vw2 veo veb vh1 vt1 vp1 vk1 (j_X0_loseWornGloves_vg vg1) vh2 (vt2 ||| ((j_X2_bit vled) ||| (j_X2_bit x0))) (vp2 + ((j_X2_worth vled 1) + (j_X2_worth x0 1))) (vk2 + 1) (j_X0_loseWornGloves_vg vg2)) gX2_finishTrick_X2_drawFor rfl (by decide +kernel) rfl ⟨⟨rfl, rfl⟩, ⟨Nat.le_of_ble_eq_true rfl, Nat.le_of_ble_eq_true rfl⟩, Nat.le_of_ble_eq_true rfl, Nat.le_of_ble_eq_true rfl⟩ hP hK hN hD hS hA [0, 1, 2, 3] [] [0, 1, 2, 3] [0] rfl rfl ⟨rfl, rfl, rfl⟩ (by decide) rfl rfl 0 2 rfl rfl rfl (lv_nil hl) rfl (Nat.le_of_ble_eq_true rfl) dX2_finishTrick_104 (fun H locs hP hD hS => ?_)
      refine lv_aload_n hx hb dX2_finishTrick_107 rfl (lv_at hl 3 rfl) ?_
      refine lv_aload_n hx hb dX2_finishTrick_108 rfl (lv_at hl 3 rfl) ?_
      refine lv_iconst (v := 1) hx hb dX2_finishTrick_109 (by decide) ?_
      refine lv_iload_n hx hb dX2_finishTrick_110 rfl (lv_at hl 2 rfl) ?_
      refine lv_isub hx hb dX2_finishTrick_111 ?_
      refine jr_callV (n := 1) (C := RX2) (As := [.int (1 - (j_X2_takerBy vtr vled vmov x0))]) (rest := [.ref a0]) S (c_X2_archivist a0 aR aF aG cI vrow (j_X2_drawFor_G_vdrawn vdrawn) vtr (-1) vmov vw1 vw2 veo veb vh1 vt1 vp1 vk1 (j_X0_loseWornGloves_vg vg1) (j_X2_drawFor_G_vh2 vrow vdrawn vh2) (vt2 ||| ((j_X2_bit vled) ||| (j_X2_bit x0))) (vp2 + ((j_X2_worth vled 1) + (j_X2_worth x0 1))) (vk2 + 1) (j_X0_loseWornGloves_vg vg2) (1 - (j_X2_takerBy vtr vled vmov x0))) gX2_finishTrick_X2_archivist rfl (by decide +kernel) rfl ⟨⟨rfl, rfl⟩, ⟨Nat.le_of_ble_eq_true rfl, Nat.le_of_ble_eq_true rfl⟩, Nat.le_of_ble_eq_true rfl, Nat.le_of_ble_eq_true rfl⟩ hP hK hN [0, 1, 2, 3] [0] rfl rfl 0 2 rfl rfl rfl (lv_nil hl) rfl (Nat.le_of_ble_eq_true rfl) dX2_finishTrick_112 ?_
      refine jr_ite (c0 := (1 - (j_X2_takerBy vtr vled vmov x0)) = 0) (a := aF) (b := aG) rfl (fun c_13 => ?_) (fun c_13 => ?_)
      · skip
        refine jw_callVv (n := 1) (C := RX2) (As := [.ref aF]) (rest := []) (wr := []) (wn := [(a0, .inr (2, [.ref aR, .ref aF, .ref aG, .int (j_X2_drawFor_F_vdrawn (j_X2_drawFor_G_vdrawn vdrawn)), .int vtr, .int (-1), .int vmov, .int vw1, .int vw2, va_rf veo, .int veb])), (aF, .inr (0, [.long (j_X2_drawFor_F_vh1 vrow (j_X2_drawFor_G_vdrawn vdrawn) vh1), .long vt1, .int vp1, .int vk1, .int (j_X0_loseWornGloves_vg vg1)])), (aG, .inr (0, [.long (j_X2_drawFor_G_vh2 vrow vdrawn vh2), .long (vt2 ||| ((j_X2_bit vled) ||| (j_X2_bit x0))), .int (vp2 + ((j_X2_worth vled 1) + (j_X2_worth x0 1))), .int (vk2 + 1), .int (j_X0_loseWornGloves_vg vg2)])), (aR, .inl (cI, 42, .inl vrow))]) S (c_X2_drawFor_F a0 aR aF aG cI vrow (j_X2_drawFor_G_vdrawn vdrawn) vtr (-1) vmov vw1 vw2 veo veb vh1 vt1 vp1 vk1 (j_X0_loseWornGloves_vg vg1) (j_X2_drawFor_G_vh2 vrow vdrawn vh2) (vt2 ||| ((j_X2_bit vled) ||| (j_X2_bit x0))) (vp2 + ((j_X2_worth vled 1) + (j_X2_worth x0 1))) (vk2 + 1) (j_X0_loseWornGloves_vg vg2)) gX2_finishTrick_X2_drawFor rfl (by decide +kernel) rfl ⟨⟨rfl, rfl⟩, ⟨Nat.le_of_ble_eq_true rfl, Nat.le_of_ble_eq_true rfl⟩, Nat.le_of_ble_eq_true rfl, Nat.le_of_ble_eq_true rfl⟩ hP hK hN hD hS hA [0, 1, 2, 3] [] [0, 1, 2, 3] [0] rfl rfl ⟨rfl, rfl, rfl⟩ (by decide) rfl rfl 0 2 rfl rfl rfl (lv_nil hl) rfl (Nat.le_of_ble_eq_true rfl) dX2_finishTrick_115 (fun H locs hP hD hS => ?_)
        refine lv_aload_n hx hb dX2_finishTrick_118 rfl (lv_at hl 3 rfl) ?_
        refine lv_iload_n hx hb dX2_finishTrick_119 rfl (lv_at hl 2 rfl) ?_
        refine va_put (D := D) (ci := 2) (v := .int (j_X2_takerBy vtr vled vmov x0)) (ty := .int) (C := RX2) (T := TX2) (N := 11) hx hb hts inX2_finishTrick_X2 tyX2 tyX2_ok nmX2 hown hK hP hD hS 0 rfl rfl 6 (by decide) (hts (.fieldLink RX2 33 "ArchivistTricks" "mover" "I") (by decide +kernel)) (fun _ h9 => h9) rfl (by decide +kernel) rfl rfl (Nat.le_of_ble_eq_true rfl) dX2_finishTrick_120 (fun H locs hP hD hS => ?_)
        have hP : va_P D vwCl [(a0, .inr (2, [.ref aR, .ref aF, .ref aG, .int (j_X2_drawFor_F_vdrawn (j_X2_drawFor_G_vdrawn vdrawn)), .int vtr, .int (-1), .int (j_X2_takerBy vtr vled vmov x0), .int vw1, .int vw2, va_rf veo, .int veb])), (aF, .inr (0, [.long (j_X2_drawFor_F_vh1 vrow (j_X2_drawFor_G_vdrawn vdrawn) vh1), .long vt1, .int vp1, .int vk1, .int (j_X0_loseWornGloves_vg vg1)])), (aG, .inr (0, [.long (j_X2_drawFor_G_vh2 vrow vdrawn vh2), .long (vt2 ||| ((j_X2_bit vled) ||| (j_X2_bit x0))), .int (vp2 + ((j_X2_worth vled 1) + (j_X2_worth x0 1))), .int (vk2 + 1), .int (j_X0_loseWornGloves_vg vg2)])), (aR, .inl (cI, 42, .inl vrow))] H := hP
        have hD : va_D A [(a0, .inr (2, [.ref aR, .ref aF, .ref aG, .int (j_X2_drawFor_F_vdrawn (j_X2_drawFor_G_vdrawn vdrawn)), .int vtr, .int (-1), .int (j_X2_takerBy vtr vled vmov x0), .int vw1, .int vw2, va_rf veo, .int veb])), (aF, .inr (0, [.long (j_X2_drawFor_F_vh1 vrow (j_X2_drawFor_G_vdrawn vdrawn) vh1), .long vt1, .int vp1, .int vk1, .int (j_X0_loseWornGloves_vg vg1)])), (aG, .inr (0, [.long (j_X2_drawFor_G_vh2 vrow vdrawn vh2), .long (vt2 ||| ((j_X2_bit vled) ||| (j_X2_bit x0))), .int (vp2 + ((j_X2_worth vled 1) + (j_X2_worth x0 1))), .int (vk2 + 1), .int (j_X0_loseWornGloves_vg vg2)])), (aR, .inl (cI, 42, .inl vrow))] := hD
        refine lv_aload_n hx hb dX2_finishTrick_123 rfl (lv_at hl 3 rfl) ?_
        refine va_get (D := D) (ci := 2) (v := .ref aF) (C := RX2) (T := TX2) (N := 11) hx hb hts inX2_finishTrick_X2 hown hK hP 0 rfl rfl 1 (by decide) (hts (.fieldLink RX2 16 "ArchivistTricks" "first" "LArchivistTricks$Archivist;") (by decide +kernel)) (fun _ h9 => h9) rfl dX2_finishTrick_124 ?_
        refine va_get (D := D) (ci := 0) (v := .long (j_X2_drawFor_F_vh1 vrow (j_X2_drawFor_G_vdrawn vdrawn) vh1)) (C := RX0) (T := TX0) (N := 5) hx hb hts inX2_finishTrick_X0 hown hK hP 1 rfl rfl 0 (by decide) (hts (.fieldLink RX2 91 "ArchivistTricks$Archivist" "hand" "J") (by decide +kernel)) (fun _ h9 => h9) rfl dX2_finishTrick_127 ?_
        refine lv_aload_n hx hb dX2_finishTrick_130 rfl (lv_at hl 3 rfl) ?_
        refine va_get (D := D) (ci := 2) (v := .ref aG) (C := RX2) (T := TX2) (N := 11) hx hb hts inX2_finishTrick_X2 hown hK hP 0 rfl rfl 2 (by decide) (hts (.fieldLink RX2 20 "ArchivistTricks" "second" "LArchivistTricks$Archivist;") (by decide +kernel)) (fun _ h9 => h9) rfl dX2_finishTrick_131 ?_
        refine va_get (D := D) (ci := 0) (v := .long (j_X2_drawFor_G_vh2 vrow vdrawn vh2)) (C := RX0) (T := TX0) (N := 5) hx hb hts inX2_finishTrick_X0 hown hK hP 2 rfl rfl 0 (by decide) (hts (.fieldLink RX2 91 "ArchivistTricks$Archivist" "hand" "J") (by decide +kernel)) (fun _ h9 => h9) rfl dX2_finishTrick_134 ?_
        refine lv_lor hx hb dX2_finishTrick_137 ?_
        refine lv_lconst (v := 0) hx hb dX2_finishTrick_138 (by decide) ?_
        refine W.lcmp hx hb dX2_finishTrick_139 ?_
        refine lv_if_ne (tgt := 147) hx hb dX2_finishTrick_140 (by decide) (fun c_14 => ?_) (fun c_14 => ?_)
        · skip
          refine lv_iload_n hx hb dX2_finishTrick_147 rfl (lv_at hl 2 rfl) ?_
          exact jw_iret hx hb hr hlocks hK hP hD hS dX2_finishTrick_148 (by  simp only [j_X2_finishTrick, if_neg c_1, if_pos c_9, if_pos c_13, if_neg c_14]) (by  simp only [j_X2_finishTrick_vdrawn, j_X2_finishTrick_vled, j_X2_finishTrick_vmov, j_X2_finishTrick_vw1, j_X2_finishTrick_vw2, j_X2_finishTrick_vh1, j_X2_finishTrick_vt1, j_X2_finishTrick_vp1, j_X2_finishTrick_vk1, j_X2_finishTrick_vg1, j_X2_finishTrick_vh2, j_X2_finishTrick_vt2, j_X2_finishTrick_vp2, j_X2_finishTrick_vk2, j_X2_finishTrick_vg2, if_neg c_1, if_pos c_9, if_pos c_13, if_neg c_14])
        · skip
          refine lv_aload_n hx hb dX2_finishTrick_143 rfl (lv_at hl 3 rfl) ?_
          refine jw_callVv (n := 0) (C := RX2) (As := []) (rest := []) (wr := []) (wn := [(a0, .inr (2, [.ref aR, .ref aF, .ref aG, .int (j_X2_drawFor_F_vdrawn (j_X2_drawFor_G_vdrawn vdrawn)), .int vtr, .int (-1), .int j_X2_endGame_vmov, .int (j_X2_endGame_vw1 vw1 vp1 (vp2 + ((j_X2_worth vled 1) + (j_X2_worth x0 1)))), .int (j_X2_endGame_vw2 vw2 vp1 (vp2 + ((j_X2_worth vled 1) + (j_X2_worth x0 1)))), va_rf veo, .int veb])), (aF, .inr (0, [.long (j_X2_drawFor_F_vh1 vrow (j_X2_drawFor_G_vdrawn vdrawn) vh1), .long vt1, .int vp1, .int vk1, .int (j_X0_loseWornGloves_vg vg1)])), (aG, .inr (0, [.long (j_X2_drawFor_G_vh2 vrow vdrawn vh2), .long (vt2 ||| ((j_X2_bit vled) ||| (j_X2_bit x0))), .int (vp2 + ((j_X2_worth vled 1) + (j_X2_worth x0 1))), .int (vk2 + 1), .int (j_X0_loseWornGloves_vg vg2)])), (aR, .inl (cI, 42, .inl vrow))]) S (c_X2_endGame a0 aR aF aG cI vrow (j_X2_drawFor_F_vdrawn (j_X2_drawFor_G_vdrawn vdrawn)) vtr (-1) (j_X2_takerBy vtr vled vmov x0) vw1 vw2 veo veb (j_X2_drawFor_F_vh1 vrow (j_X2_drawFor_G_vdrawn vdrawn) vh1) vt1 vp1 vk1 (j_X0_loseWornGloves_vg vg1) (j_X2_drawFor_G_vh2 vrow vdrawn vh2) (vt2 ||| ((j_X2_bit vled) ||| (j_X2_bit x0))) (vp2 + ((j_X2_worth vled 1) + (j_X2_worth x0 1))) (vk2 + 1) (j_X0_loseWornGloves_vg vg2)) gX2_finishTrick_X2_endGame rfl (by decide +kernel) rfl ⟨⟨rfl, rfl⟩, ⟨Nat.le_of_ble_eq_true rfl, Nat.le_of_ble_eq_true rfl⟩, Nat.le_of_ble_eq_true rfl, Nat.le_of_ble_eq_true rfl⟩ hP hK hN hD hS hA [0, 1, 2, 3] [] [0, 1, 2, 3] [0] rfl rfl ⟨rfl, rfl, rfl⟩ (by decide) rfl rfl 0 2 rfl rfl rfl (lv_nil hl) rfl (Nat.le_of_ble_eq_true rfl) dX2_finishTrick_144 (fun H locs hP hD hS => ?_)
          refine lv_iload_n hx hb dX2_finishTrick_147 rfl (lv_at hl 2 rfl) ?_
          exact jw_iret hx hb hr hlocks hK hP hD hS dX2_finishTrick_148 (by  simp only [j_X2_finishTrick, if_neg c_1, if_pos c_9, if_pos c_13, if_pos c_14]) (by  simp only [j_X2_finishTrick_vdrawn, j_X2_finishTrick_vled, j_X2_finishTrick_vmov, j_X2_finishTrick_vw1, j_X2_finishTrick_vw2, j_X2_finishTrick_vh1, j_X2_finishTrick_vt1, j_X2_finishTrick_vp1, j_X2_finishTrick_vk1, j_X2_finishTrick_vg1, j_X2_finishTrick_vh2, j_X2_finishTrick_vt2, j_X2_finishTrick_vp2, j_X2_finishTrick_vk2, j_X2_finishTrick_vg2, if_neg c_1, if_pos c_9, if_pos c_13, if_pos c_14])
      · skip
        refine jw_callVv (n := 1) (C := RX2) (As := [.ref aG]) (rest := []) (wr := []) (wn := [(a0, .inr (2, [.ref aR, .ref aF, .ref aG, .int (j_X2_drawFor_G_vdrawn (j_X2_drawFor_G_vdrawn vdrawn)), .int vtr, .int (-1), .int vmov, .int vw1, .int vw2, va_rf veo, .int veb])), (aF, .inr (0, [.long vh1, .long vt1, .int vp1, .int vk1, .int (j_X0_loseWornGloves_vg vg1)])), (aG, .inr (0, [.long (j_X2_drawFor_G_vh2 vrow (j_X2_drawFor_G_vdrawn vdrawn) (j_X2_drawFor_G_vh2 vrow vdrawn vh2)), .long (vt2 ||| ((j_X2_bit vled) ||| (j_X2_bit x0))), .int (vp2 + ((j_X2_worth vled 1) + (j_X2_worth x0 1))), .int (vk2 + 1), .int (j_X0_loseWornGloves_vg vg2)])), (aR, .inl (cI, 42, .inl vrow))]) S (c_X2_drawFor_G a0 aR aF aG cI vrow (j_X2_drawFor_G_vdrawn vdrawn) vtr (-1) vmov vw1 vw2 veo veb vh1 vt1 vp1 vk1 (j_X0_loseWornGloves_vg vg1) (j_X2_drawFor_G_vh2 vrow vdrawn vh2) (vt2 ||| ((j_X2_bit vled) ||| (j_X2_bit x0))) (vp2 + ((j_X2_worth vled 1) + (j_X2_worth x0 1))) (vk2 + 1) (j_X0_loseWornGloves_vg vg2)) gX2_finishTrick_X2_drawFor rfl (by decide +kernel) rfl ⟨⟨rfl, rfl⟩, ⟨Nat.le_of_ble_eq_true rfl, Nat.le_of_ble_eq_true rfl⟩, Nat.le_of_ble_eq_true rfl, Nat.le_of_ble_eq_true rfl⟩ hP hK hN hD hS hA [0, 1, 2, 3] [] [0, 1, 2, 3] [0] rfl rfl ⟨rfl, rfl, rfl⟩ (by decide) rfl rfl 0 2 rfl rfl rfl (lv_nil hl) rfl (Nat.le_of_ble_eq_true rfl) dX2_finishTrick_115 (fun H locs hP hD hS => ?_)
        refine lv_aload_n hx hb dX2_finishTrick_118 rfl (lv_at hl 3 rfl) ?_
        refine lv_iload_n hx hb dX2_finishTrick_119 rfl (lv_at hl 2 rfl) ?_
        refine va_put (D := D) (ci := 2) (v := .int (j_X2_takerBy vtr vled vmov x0)) (ty := .int) (C := RX2) (T := TX2) (N := 11) hx hb hts inX2_finishTrick_X2 tyX2 tyX2_ok nmX2 hown hK hP hD hS 0 rfl rfl 6 (by decide) (hts (.fieldLink RX2 33 "ArchivistTricks" "mover" "I") (by decide +kernel)) (fun _ h9 => h9) rfl (by decide +kernel) rfl rfl (Nat.le_of_ble_eq_true rfl) dX2_finishTrick_120 (fun H locs hP hD hS => ?_)
        have hP : va_P D vwCl [(a0, .inr (2, [.ref aR, .ref aF, .ref aG, .int (j_X2_drawFor_G_vdrawn (j_X2_drawFor_G_vdrawn vdrawn)), .int vtr, .int (-1), .int (j_X2_takerBy vtr vled vmov x0), .int vw1, .int vw2, va_rf veo, .int veb])), (aF, .inr (0, [.long vh1, .long vt1, .int vp1, .int vk1, .int (j_X0_loseWornGloves_vg vg1)])), (aG, .inr (0, [.long (j_X2_drawFor_G_vh2 vrow (j_X2_drawFor_G_vdrawn vdrawn) (j_X2_drawFor_G_vh2 vrow vdrawn vh2)), .long (vt2 ||| ((j_X2_bit vled) ||| (j_X2_bit x0))), .int (vp2 + ((j_X2_worth vled 1) + (j_X2_worth x0 1))), .int (vk2 + 1), .int (j_X0_loseWornGloves_vg vg2)])), (aR, .inl (cI, 42, .inl vrow))] H := hP
        have hD : va_D A [(a0, .inr (2, [.ref aR, .ref aF, .ref aG, .int (j_X2_drawFor_G_vdrawn (j_X2_drawFor_G_vdrawn vdrawn)), .int vtr, .int (-1), .int (j_X2_takerBy vtr vled vmov x0), .int vw1, .int vw2, va_rf veo, .int veb])), (aF, .inr (0, [.long vh1, .long vt1, .int vp1, .int vk1, .int (j_X0_loseWornGloves_vg vg1)])), (aG, .inr (0, [.long (j_X2_drawFor_G_vh2 vrow (j_X2_drawFor_G_vdrawn vdrawn) (j_X2_drawFor_G_vh2 vrow vdrawn vh2)), .long (vt2 ||| ((j_X2_bit vled) ||| (j_X2_bit x0))), .int (vp2 + ((j_X2_worth vled 1) + (j_X2_worth x0 1))), .int (vk2 + 1), .int (j_X0_loseWornGloves_vg vg2)])), (aR, .inl (cI, 42, .inl vrow))] := hD
        refine lv_aload_n hx hb dX2_finishTrick_123 rfl (lv_at hl 3 rfl) ?_
        refine va_get (D := D) (ci := 2) (v := .ref aF) (C := RX2) (T := TX2) (N := 11) hx hb hts inX2_finishTrick_X2 hown hK hP 0 rfl rfl 1 (by decide) (hts (.fieldLink RX2 16 "ArchivistTricks" "first" "LArchivistTricks$Archivist;") (by decide +kernel)) (fun _ h9 => h9) rfl dX2_finishTrick_124 ?_
        refine va_get (D := D) (ci := 0) (v := .long vh1) (C := RX0) (T := TX0) (N := 5) hx hb hts inX2_finishTrick_X0 hown hK hP 1 rfl rfl 0 (by decide) (hts (.fieldLink RX2 91 "ArchivistTricks$Archivist" "hand" "J") (by decide +kernel)) (fun _ h9 => h9) rfl dX2_finishTrick_127 ?_
        refine lv_aload_n hx hb dX2_finishTrick_130 rfl (lv_at hl 3 rfl) ?_
        refine va_get (D := D) (ci := 2) (v := .ref aG) (C := RX2) (T := TX2) (N := 11) hx hb hts inX2_finishTrick_X2 hown hK hP 0 rfl rfl 2 (by decide) (hts (.fieldLink RX2 20 "ArchivistTricks" "second" "LArchivistTricks$Archivist;") (by decide +kernel)) (fun _ h9 => h9) rfl dX2_finishTrick_131 ?_
        refine va_get (D := D) (ci := 0) (v := .long (j_X2_drawFor_G_vh2 vrow (j_X2_drawFor_G_vdrawn vdrawn) (j_X2_drawFor_G_vh2 vrow vdrawn vh2))) (C := RX0) (T := TX0) (N := 5) hx hb hts inX2_finishTrick_X0 hown hK hP 2 rfl rfl 0 (by decide) (hts (.fieldLink RX2 91 "ArchivistTricks$Archivist" "hand" "J") (by decide +kernel)) (fun _ h9 => h9) rfl dX2_finishTrick_134 ?_
        refine lv_lor hx hb dX2_finishTrick_137 ?_
        refine lv_lconst (v := 0) hx hb dX2_finishTrick_138 (by decide) ?_
        refine W.lcmp hx hb dX2_finishTrick_139 ?_
        refine lv_if_ne (tgt := 147) hx hb dX2_finishTrick_140 (by decide) (fun c_15 => ?_) (fun c_15 => ?_)
        · skip
          refine lv_iload_n hx hb dX2_finishTrick_147 rfl (lv_at hl 2 rfl) ?_
          exact jw_iret hx hb hr hlocks hK hP hD hS dX2_finishTrick_148 (by  simp only [j_X2_finishTrick, if_neg c_1, if_pos c_9, if_neg c_13, if_neg c_15]) (by  simp only [j_X2_finishTrick_vdrawn, j_X2_finishTrick_vled, j_X2_finishTrick_vmov, j_X2_finishTrick_vw1, j_X2_finishTrick_vw2, j_X2_finishTrick_vh1, j_X2_finishTrick_vt1, j_X2_finishTrick_vp1, j_X2_finishTrick_vk1, j_X2_finishTrick_vg1, j_X2_finishTrick_vh2, j_X2_finishTrick_vt2, j_X2_finishTrick_vp2, j_X2_finishTrick_vk2, j_X2_finishTrick_vg2, if_neg c_1, if_pos c_9, if_neg c_13, if_neg c_15])
        · skip
          refine lv_aload_n hx hb dX2_finishTrick_143 rfl (lv_at hl 3 rfl) ?_
          refine jw_callVv (n := 0) (C := RX2) (As := []) (rest := []) (wr := []) (wn := [(a0, .inr (2, [.ref aR, .ref aF, .ref aG, .int (j_X2_drawFor_G_vdrawn (j_X2_drawFor_G_vdrawn vdrawn)), .int vtr, .int (-1), .int j_X2_endGame_vmov, .int (j_X2_endGame_vw1 vw1 vp1 (vp2 + ((j_X2_worth vled 1) + (j_X2_worth x0 1)))), .int (j_X2_endGame_vw2 vw2 vp1 (vp2 + ((j_X2_worth vled 1) + (j_X2_worth x0 1)))), va_rf veo, .int veb])), (aF, .inr (0, [.long vh1, .long vt1, .int vp1, .int vk1, .int (j_X0_loseWornGloves_vg vg1)])), (aG, .inr (0, [.long (j_X2_drawFor_G_vh2 vrow (j_X2_drawFor_G_vdrawn vdrawn) (j_X2_drawFor_G_vh2 vrow vdrawn vh2)), .long (vt2 ||| ((j_X2_bit vled) ||| (j_X2_bit x0))), .int (vp2 + ((j_X2_worth vled 1) + (j_X2_worth x0 1))), .int (vk2 + 1), .int (j_X0_loseWornGloves_vg vg2)])), (aR, .inl (cI, 42, .inl vrow))]) S (c_X2_endGame a0 aR aF aG cI vrow (j_X2_drawFor_G_vdrawn (j_X2_drawFor_G_vdrawn vdrawn)) vtr (-1) (j_X2_takerBy vtr vled vmov x0) vw1 vw2 veo veb vh1 vt1 vp1 vk1 (j_X0_loseWornGloves_vg vg1) (j_X2_drawFor_G_vh2 vrow (j_X2_drawFor_G_vdrawn vdrawn) (j_X2_drawFor_G_vh2 vrow vdrawn vh2)) (vt2 ||| ((j_X2_bit vled) ||| (j_X2_bit x0))) (vp2 + ((j_X2_worth vled 1) + (j_X2_worth x0 1))) (vk2 + 1) (j_X0_loseWornGloves_vg vg2)) gX2_finishTrick_X2_endGame rfl (by decide +kernel) rfl ⟨⟨rfl, rfl⟩, ⟨Nat.le_of_ble_eq_true rfl, Nat.le_of_ble_eq_true rfl⟩, Nat.le_of_ble_eq_true rfl, Nat.le_of_ble_eq_true rfl⟩ hP hK hN hD hS hA [0, 1, 2, 3] [] [0, 1, 2, 3] [0] rfl rfl ⟨rfl, rfl, rfl⟩ (by decide) rfl rfl 0 2 rfl rfl rfl (lv_nil hl) rfl (Nat.le_of_ble_eq_true rfl) dX2_finishTrick_144 (fun H locs hP hD hS => ?_)
          refine lv_iload_n hx hb dX2_finishTrick_147 rfl (lv_at hl 2 rfl) ?_
          exact jw_iret hx hb hr hlocks hK hP hD hS dX2_finishTrick_148 (by  simp only [j_X2_finishTrick, if_neg c_1, if_pos c_9, if_neg c_13, if_pos c_15]) (by  simp only [j_X2_finishTrick_vdrawn, j_X2_finishTrick_vled, j_X2_finishTrick_vmov, j_X2_finishTrick_vw1, j_X2_finishTrick_vw2, j_X2_finishTrick_vh1, j_X2_finishTrick_vt1, j_X2_finishTrick_vp1, j_X2_finishTrick_vk1, j_X2_finishTrick_vg1, j_X2_finishTrick_vh2, j_X2_finishTrick_vt2, j_X2_finishTrick_vp2, j_X2_finishTrick_vk2, j_X2_finishTrick_vg2, if_neg c_1, if_pos c_9, if_neg c_13, if_pos c_15])

abbrev rX2_exchange : Room := { frames := 0, cells := 0, slots := 0, locals := 0 }
def j_X2_exchange_vrow (vrow : Nat → Int32) (x0 : Int32) (x1 : Int32) : Nat → Int32 := (if x0 < 0 then vrow else (if 42 ≤ x0 then vrow else (if x1 < 0 then vrow else (if 42 ≤ x1 then vrow else upd (upd vrow x0.toNatClampNeg (vrow (x1).toNatClampNeg)) x1.toNatClampNeg (vrow (x0).toNatClampNeg)))))
theorem inX2_exchange_X2 : ∀ w ∈ u_ws RX2 TX2 11, w ∈ wsX2_exchange := by decide +kernel
set_option maxRecDepth 100000 in
set_option maxHeartbeats 8000000 in
theorem c_X2_exchange {l : Launch} {D : va_G} (a0 : Nat) (aR : Nat) (aF : Nat) (aG : Nat) (cI : ClassId) (vrow : Nat → Int32) (vdrawn : Int32) (vtr : Int32) (vled : Int32) (vmov : Int32) (vw1 : Int32) (vw2 : Int32) (veo : Option Nat) (veb : Int32) (vh1 : Int64) (vt1 : Int64) (vp1 : Int32) (vk1 : Int32) (vg1 : Int32) (vh2 : Int64) (vt2 : Int64) (vp2 : Int32) (vk2 : Int32) (vg2 : Int32) (x0 : Int32) (x1 : Int32) : jWv l yX2_exchange wsX2_exchange rX2_exchange D [.ref a0, .int x0, .int x1] (jC a0 aR aF aG cI vrow vdrawn vtr vled vmov vw1 vw2 veo veb vh1 vt1 vp1 vk1 vg1 vh2 vt2 vp2 vk2 vg2) [(cI, .int)] (jC a0 aR aF aG cI (j_X2_exchange_vrow vrow x0 x1) vdrawn vtr vled vmov vw1 vw2 veo veb vh1 vt1 vp1 vk1 vg1 vh2 vt2 vp2 vk2 vg2) := by
  refine jW_of (QQ := fun A => (jQv D (jC a0 aR aF aG cI (j_X2_exchange_vrow vrow x0 x1) vdrawn vtr vled vmov vw1 vw2 veo veb vh1 vt1 vp1 vk1 vg1 vh2 vt2 vp2 vk2 vg2) [(cI, .int)] A)) (cc := cX2_exchange) (maxL := 4) (ret := none) (by decide) rfl (Nat.le_of_ble_eq_true rfl) ?_
  intro p e s m below meth c ls A S hr hlocks hini hP hK hN hD hS hA hl
  obtain ⟨hx, hb, hml, hown, hts⟩ := id S
  have hl : lv_has ls 4 [(0, .ref a0), (1, .int x0), (2, .int x1)] := hl
  refine lv_iload_n hx hb dX2_exchange_0 rfl (lv_at hl 1 rfl) ?_
  refine lv_if_lt (tgt := 46) hx hb dX2_exchange_1 (by decide) (fun c_1 => ?_) (fun c_1 => ?_)
  · skip
    exact jw_vret hx hb hr hlocks hK hP hD hS dX2_exchange_46 (by  simp only [j_X2_exchange_vrow, if_pos c_1])
  · skip
    refine lv_iload_n hx hb dX2_exchange_4 rfl (lv_at hl 1 rfl) ?_
    refine lv_bipush (v := 42) hx hb dX2_exchange_5 (by decide) ?_
    refine lv_icmp_ge (tgt := 46) hx hb dX2_exchange_7 (by decide) (fun c_2 => ?_) (fun c_2 => ?_)
    · skip
      exact jw_vret hx hb hr hlocks hK hP hD hS dX2_exchange_46 (by  simp only [j_X2_exchange_vrow, if_neg c_1, if_pos c_2])
    · skip
      refine lv_iload_n hx hb dX2_exchange_10 rfl (lv_at hl 2 rfl) ?_
      refine lv_if_lt (tgt := 46) hx hb dX2_exchange_11 (by decide) (fun c_3 => ?_) (fun c_3 => ?_)
      · skip
        exact jw_vret hx hb hr hlocks hK hP hD hS dX2_exchange_46 (by  simp only [j_X2_exchange_vrow, if_neg c_1, if_neg c_2, if_pos c_3])
      · skip
        refine lv_iload_n hx hb dX2_exchange_14 rfl (lv_at hl 2 rfl) ?_
        refine lv_bipush (v := 42) hx hb dX2_exchange_15 (by decide) ?_
        refine lv_icmp_ge (tgt := 46) hx hb dX2_exchange_17 (by decide) (fun c_4 => ?_) (fun c_4 => ?_)
        · skip
          exact jw_vret hx hb hr hlocks hK hP hD hS dX2_exchange_46 (by  simp only [j_X2_exchange_vrow, if_neg c_1, if_neg c_2, if_neg c_3, if_pos c_4])
        · skip
          refine lv_aload_n hx hb dX2_exchange_20 rfl (lv_at hl 0 rfl) ?_
          refine va_get (D := D) (ci := 2) (v := .ref aR) (C := RX2) (T := TX2) (N := 11) hx hb hts inX2_exchange_X2 hown hK hP 0 rfl rfl 0 (by decide) (hts (.fieldLink RX2 9 "ArchivistTricks" "row" "[I") (by decide +kernel)) (fun _ h9 => h9) rfl dX2_exchange_21 ?_
          refine lv_iload_n hx hb dX2_exchange_24 rfl (lv_at hl 1 rfl) ?_
          refine va_iald hx hb hK hP 3 0 rfl rfl (i := x0) (jx_in c_1 c_2 rfl (by decide)) dX2_exchange_25 ?_
          refine lv_istore_n (lv' := [(3, .int (vrow (x0).toNatClampNeg)), (0, .ref a0), (1, .int x0), (2, .int x1)]) hx hb dX2_exchange_26 rfl hl (by decide) rfl (fun ls hl => ?_)
          refine lv_aload_n hx hb dX2_exchange_27 rfl (lv_at hl 1 rfl) ?_
          refine va_get (D := D) (ci := 2) (v := .ref aR) (C := RX2) (T := TX2) (N := 11) hx hb hts inX2_exchange_X2 hown hK hP 0 rfl rfl 0 (by decide) (hts (.fieldLink RX2 9 "ArchivistTricks" "row" "[I") (by decide +kernel)) (fun _ h9 => h9) rfl dX2_exchange_28 ?_
          refine lv_iload_n hx hb dX2_exchange_31 rfl (lv_at hl 2 rfl) ?_
          refine lv_aload_n hx hb dX2_exchange_32 rfl (lv_at hl 1 rfl) ?_
          refine va_get (D := D) (ci := 2) (v := .ref aR) (C := RX2) (T := TX2) (N := 11) hx hb hts inX2_exchange_X2 hown hK hP 0 rfl rfl 0 (by decide) (hts (.fieldLink RX2 9 "ArchivistTricks" "row" "[I") (by decide +kernel)) (fun _ h9 => h9) rfl dX2_exchange_33 ?_
          refine lv_iload_n hx hb dX2_exchange_36 rfl (lv_at hl 3 rfl) ?_
          refine va_iald hx hb hK hP 3 0 rfl rfl (i := x1) (jx_in c_3 c_4 rfl (by decide)) dX2_exchange_37 ?_
          refine va_iast hx hb hK hP hD hS 3 0 rfl rfl (i := x0) (jx_in c_1 c_2 rfl (by decide)) dX2_exchange_38 (fun H locs hP hD hS => ?_)
          have hP : va_P D vwCl [(a0, .inr (2, [.ref aR, .ref aF, .ref aG, .int vdrawn, .int vtr, .int vled, .int vmov, .int vw1, .int vw2, va_rf veo, .int veb])), (aF, .inr (0, [.long vh1, .long vt1, .int vp1, .int vk1, .int vg1])), (aG, .inr (0, [.long vh2, .long vt2, .int vp2, .int vk2, .int vg2])), (aR, .inl (cI, 42, .inl (upd vrow x0.toNatClampNeg (vrow (x1).toNatClampNeg))))] H := hP
          have hD : va_D A [(a0, .inr (2, [.ref aR, .ref aF, .ref aG, .int vdrawn, .int vtr, .int vled, .int vmov, .int vw1, .int vw2, va_rf veo, .int veb])), (aF, .inr (0, [.long vh1, .long vt1, .int vp1, .int vk1, .int vg1])), (aG, .inr (0, [.long vh2, .long vt2, .int vp2, .int vk2, .int vg2])), (aR, .inl (cI, 42, .inl (upd vrow x0.toNatClampNeg (vrow (x1).toNatClampNeg))))] := hD
          refine lv_aload_n hx hb dX2_exchange_39 rfl (lv_at hl 1 rfl) ?_
          refine va_get (D := D) (ci := 2) (v := .ref aR) (C := RX2) (T := TX2) (N := 11) hx hb hts inX2_exchange_X2 hown hK hP 0 rfl rfl 0 (by decide) (hts (.fieldLink RX2 9 "ArchivistTricks" "row" "[I") (by decide +kernel)) (fun _ h9 => h9) rfl dX2_exchange_40 ?_
          refine lv_iload_n hx hb dX2_exchange_43 rfl (lv_at hl 3 rfl) ?_
          refine lv_iload_n hx hb dX2_exchange_44 rfl (lv_at hl 0 rfl) ?_
          refine va_iast hx hb hK hP hD hS 3 0 rfl rfl (i := x1) (jx_in c_3 c_4 rfl (by decide)) dX2_exchange_45 (fun H locs hP hD hS => ?_)
          have hP : va_P D vwCl [(a0, .inr (2, [.ref aR, .ref aF, .ref aG, .int vdrawn, .int vtr, .int vled, .int vmov, .int vw1, .int vw2, va_rf veo, .int veb])), (aF, .inr (0, [.long vh1, .long vt1, .int vp1, .int vk1, .int vg1])), (aG, .inr (0, [.long vh2, .long vt2, .int vp2, .int vk2, .int vg2])), (aR, .inl (cI, 42, .inl (upd (upd vrow x0.toNatClampNeg (vrow (x1).toNatClampNeg)) x1.toNatClampNeg (vrow (x0).toNatClampNeg))))] H := hP
          have hD : va_D A [(a0, .inr (2, [.ref aR, .ref aF, .ref aG, .int vdrawn, .int vtr, .int vled, .int vmov, .int vw1, .int vw2, va_rf veo, .int veb])), (aF, .inr (0, [.long vh1, .long vt1, .int vp1, .int vk1, .int vg1])), (aG, .inr (0, [.long vh2, .long vt2, .int vp2, .int vk2, .int vg2])), (aR, .inl (cI, 42, .inl (upd (upd vrow x0.toNatClampNeg (vrow (x1).toNatClampNeg)) x1.toNatClampNeg (vrow (x0).toNatClampNeg))))] := hD
          exact jw_vret hx hb hr hlocks hK hP hD hS dX2_exchange_46 (by  simp only [j_X2_exchange_vrow, if_neg c_1, if_neg c_2, if_neg c_3, if_neg c_4])

abbrev rX2_shuffle : Room := { frames := 1, cells := 0, slots := 0, locals := 23 }
def j_X2_shuffle_vrow_27 (vrow : Nat → Int32) (x0 : Int64) : Nat → Int64 → (Nat → Int32) → (Nat → Int32)
  | 0, y3, zvrow => zvrow
  | i + 1, y3, zvrow => j_X2_shuffle_vrow_27 vrow x0 i ((y3 * 6364136223846793005) + 1442695040888963407) (j_X2_exchange_vrow zvrow (nI (i + 1)) ((((((y3 * 6364136223846793005) + 1442695040888963407).toUInt64 >>> ((33 : Int32).toInt64.toUInt64 &&& Int64.toUInt64 63)).toInt64) - ((((y3 * 6364136223846793005) + 1442695040888963407).toUInt64 >>> ((33 : Int32).toInt64.toUInt64 &&& Int64.toUInt64 63)).toInt64) / (((nI (i + 1)) + 1).toInt64) * (((nI (i + 1)) + 1).toInt64)).toInt32))
def j_X2_shuffle_vrow_2 (vrow : Nat → Int32) (x0 : Int64) : Nat → Nat → (Nat → Int32) → (Nat → Int32)
  | 0, i, zvrow => j_X2_shuffle_vrow_27 vrow x0 41 x0 zvrow
  | n + 1, i, zvrow => j_X2_shuffle_vrow_2 vrow x0 n (i + 1) (upd zvrow (nI i).toNatClampNeg (nI i))
def j_X2_shuffle_vrow (vrow : Nat → Int32) (x0 : Int64) : Nat → Int32 := j_X2_shuffle_vrow_2 vrow x0 42 0 vrow
theorem inX2_shuffle_X2 : ∀ w ∈ u_ws RX2 TX2 11, w ∈ wsX2_shuffle := by decide +kernel
set_option maxRecDepth 100000 in
set_option maxHeartbeats 8000000 in
theorem c_X2_shuffle {l : Launch} {D : va_G} (a0 : Nat) (aR : Nat) (aF : Nat) (aG : Nat) (cI : ClassId) (vrow : Nat → Int32) (vdrawn : Int32) (vtr : Int32) (vled : Int32) (vmov : Int32) (vw1 : Int32) (vw2 : Int32) (veo : Option Nat) (veb : Int32) (vh1 : Int64) (vt1 : Int64) (vp1 : Int32) (vk1 : Int32) (vg1 : Int32) (vh2 : Int64) (vt2 : Int64) (vp2 : Int32) (vk2 : Int32) (vg2 : Int32) (x0 : Int64) : jWv l yX2_shuffle wsX2_shuffle rX2_shuffle D [.ref a0, .long x0] (jC a0 aR aF aG cI vrow vdrawn vtr vled vmov vw1 vw2 veo veb vh1 vt1 vp1 vk1 vg1 vh2 vt2 vp2 vk2 vg2) [(cI, .int)] (jC a0 aR aF aG cI (j_X2_shuffle_vrow vrow x0) vdrawn vtr vled vmov vw1 vw2 veo veb vh1 vt1 vp1 vk1 vg1 vh2 vt2 vp2 vk2 vg2) := by
  refine jW_of (QQ := fun A => (jQv D (jC a0 aR aF aG cI (j_X2_shuffle_vrow vrow x0) vdrawn vtr vled vmov vw1 vw2 veo veb vh1 vt1 vp1 vk1 vg1 vh2 vt2 vp2 vk2 vg2) [(cI, .int)] A)) (cc := cX2_shuffle) (maxL := 6) (ret := none) (by decide) rfl (Nat.le_of_ble_eq_true rfl) ?_
  intro p e s m below meth c ls A S hr hlocks hini hP hK hN hD hS hA hl
  obtain ⟨hx, hb, hml, hown, hts⟩ := id S
  have hl : lv_has ls 6 [(0, .ref a0), (1, .long x0)] := hl
  have loop27 : ∀ (i : Nat) (y3 : Int64) (zvrow : Nat → Int32), i ≤ 41 → j_X2_shuffle_vrow_27 vrow x0 i y3 zvrow = (j_X2_shuffle_vrow vrow x0) → ∀ (H : Heap) (locs : List Loc), va_P D vwCl [(a0, .inr (2, [.ref aR, .ref aF, .ref aG, .int vdrawn, .int vtr, .int vled, .int vmov, .int vw1, .int vw2, va_rf veo, .int veb])), (aF, .inr (0, [.long vh1, .long vt1, .int vp1, .int vk1, .int vg1])), (aG, .inr (0, [.long vh2, .long vt2, .int vp2, .int vk2, .int vg2])), (aR, .inl (cI, 42, .inl zvrow))] H → va_D A [(a0, .inr (2, [.ref aR, .ref aF, .ref aG, .int vdrawn, .int vtr, .int vled, .int vmov, .int vw1, .int vw2, va_rf veo, .int veb])), (aF, .inr (0, [.long vh1, .long vt1, .int vp1, .int vk1, .int vg1])), (aG, .inr (0, [.long vh2, .long vt2, .int vp2, .int vk2, .int vg2])), (aR, .inl (cI, 42, .inl zvrow))] → va_S A s.heap H locs → ∀ (ls : Array Slot), lv_has ls 6 [(5, .int (nI i)), (3, .long y3), (0, .ref a0), (1, .long x0)] → W p l e rX2_shuffle s m ([.ref a0, .long x0] : List Value).toArray below meth c H locs 0 0 (MQ below (jQv D (jC a0 aR aF aG cI (j_X2_shuffle_vrow vrow x0) vdrawn vtr vled vmov vw1 vw2 veo veb vh1 vt1 vp1 vk1 vg1 vh2 vt2 vp2 vk2 vg2) [(cI, .int)] A) ([.ref a0, .long x0] : List Value).toArray s 0 0 A) (F0 m 27 ls []) := by
    intro i
    induction i with
    | zero =>
      intro y3 zvrow hin hv_vrow H locs hP hD hS ls hl
      have hlt : nI 0 < (1 : Int32) := by decide
      refine lv_iload hx hb dX2_shuffle_27 (lv_at hl 0 rfl) ?_
      refine lv_iconst (v := 1) hx hb dX2_shuffle_29 (by decide) ?_
      refine lv_icmp_lt (tgt := 66) hx hb dX2_shuffle_30 (by decide) (fun _ => ?_) (fun c_ => absurd hlt c_)
      exact jw_vret hx hb hr hlocks hK hP hD hS dX2_shuffle_66 (by rw [← hv_vrow]; simp only [j_X2_shuffle_vrow_27, if_pos hlt])
    | succ i ih =>
      intro y3 zvrow hin hv_vrow H locs hP hD hS ls hl
      have hlt : ¬ nI (i + 1) < (1 : Int32) := nI_nlt (a := i + 1) (b := 1) (by omega) (by omega)
      refine lv_iload hx hb dX2_shuffle_27 (lv_at hl 0 rfl) ?_
      refine lv_iconst (v := 1) hx hb dX2_shuffle_29 (by decide) ?_
      refine lv_icmp_lt (tgt := 66) hx hb dX2_shuffle_30 (by decide) (fun c_ => absurd c_ hlt) (fun _ => ?_)
      refine lv_lload_n hx hb dX2_shuffle_33 rfl (lv_at hl 1 rfl) ?_
      refine lv_ldc2 (v := 6364136223846793005) hx hb hown (hts (.constantLong RX2 174 (6364136223846793005)) (by decide +kernel)) dX2_shuffle_34 ?_
      refine lv_lmul hx hb dX2_shuffle_37 ?_
      refine lv_ldc2 (v := 1442695040888963407) hx hb hown (hts (.constantLong RX2 176 (1442695040888963407)) (by decide +kernel)) dX2_shuffle_38 ?_
      refine lv_ladd hx hb dX2_shuffle_41 ?_
      refine lv_lstore_n (lv' := [(3, .long ((y3 * 6364136223846793005) + 1442695040888963407)), (5, .int (nI (i + 1))), (0, .ref a0), (1, .long x0)]) hx hb dX2_shuffle_42 rfl hl (by decide) rfl (fun ls hl => ?_)
      refine lv_aload_n hx hb dX2_shuffle_43 rfl (lv_at hl 2 rfl) ?_
      refine lv_iload hx hb dX2_shuffle_44 (lv_at hl 1 rfl) ?_
      refine lv_lload_n hx hb dX2_shuffle_46 rfl (lv_at hl 0 rfl) ?_
      refine lv_bipush (v := 33) hx hb dX2_shuffle_47 (by decide) ?_
      refine lv_lushr (v := (((y3 * 6364136223846793005) + 1442695040888963407).toUInt64 >>> ((33 : Int32).toInt64.toUInt64 &&& Int64.toUInt64 63)).toInt64) hx hb dX2_shuffle_49 rfl ?_
      refine lv_iload hx hb dX2_shuffle_50 (lv_at hl 1 rfl) ?_
      refine lv_iconst (v := 1) hx hb dX2_shuffle_52 (by decide) ?_
      refine lv_iadd hx hb dX2_shuffle_53 ?_
      refine lv_i2l (v := ((nI (i + 1)) + 1).toInt64) hx hb dX2_shuffle_54 rfl ?_
      refine lv_lrem hx hb dX2_shuffle_55 (jx_ne hin) ?_
      refine lv_l2i (v := (((((y3 * 6364136223846793005) + 1442695040888963407).toUInt64 >>> ((33 : Int32).toInt64.toUInt64 &&& Int64.toUInt64 63)).toInt64) - ((((y3 * 6364136223846793005) + 1442695040888963407).toUInt64 >>> ((33 : Int32).toInt64.toUInt64 &&& Int64.toUInt64 63)).toInt64) / (((nI (i + 1)) + 1).toInt64) * (((nI (i + 1)) + 1).toInt64)).toInt32) hx hb dX2_shuffle_56 rfl ?_
      refine jw_callVv (n := 2) (C := RX2) (As := [.int (nI (i + 1)), .int ((((((y3 * 6364136223846793005) + 1442695040888963407).toUInt64 >>> ((33 : Int32).toInt64.toUInt64 &&& Int64.toUInt64 63)).toInt64) - ((((y3 * 6364136223846793005) + 1442695040888963407).toUInt64 >>> ((33 : Int32).toInt64.toUInt64 &&& Int64.toUInt64 63)).toInt64) / (((nI (i + 1)) + 1).toInt64) * (((nI (i + 1)) + 1).toInt64)).toInt32)]) (rest := []) (wr := []) (wn := [(a0, .inr (2, [.ref aR, .ref aF, .ref aG, .int vdrawn, .int vtr, .int vled, .int vmov, .int vw1, .int vw2, va_rf veo, .int veb])), (aF, .inr (0, [.long vh1, .long vt1, .int vp1, .int vk1, .int vg1])), (aG, .inr (0, [.long vh2, .long vt2, .int vp2, .int vk2, .int vg2])), (aR, .inl (cI, 42, .inl (j_X2_exchange_vrow zvrow (nI (i + 1)) ((((((y3 * 6364136223846793005) + 1442695040888963407).toUInt64 >>> ((33 : Int32).toInt64.toUInt64 &&& Int64.toUInt64 63)).toInt64) - ((((y3 * 6364136223846793005) + 1442695040888963407).toUInt64 >>> ((33 : Int32).toInt64.toUInt64 &&& Int64.toUInt64 63)).toInt64) / (((nI (i + 1)) + 1).toInt64) * (((nI (i + 1)) + 1).toInt64)).toInt32))))]) S (c_X2_exchange a0 aR aF aG cI zvrow vdrawn vtr vled vmov vw1 vw2 veo veb vh1 vt1 vp1 vk1 vg1 vh2 vt2 vp2 vk2 vg2 (nI (i + 1)) ((((((y3 * 6364136223846793005) + 1442695040888963407).toUInt64 >>> ((33 : Int32).toInt64.toUInt64 &&& Int64.toUInt64 63)).toInt64) - ((((y3 * 6364136223846793005) + 1442695040888963407).toUInt64 >>> ((33 : Int32).toInt64.toUInt64 &&& Int64.toUInt64 63)).toInt64) / (((nI (i + 1)) + 1).toInt64) * (((nI (i + 1)) + 1).toInt64)).toInt32)) gX2_shuffle_X2_exchange rfl (by decide +kernel) rfl ⟨⟨rfl, rfl⟩, ⟨Nat.le_of_ble_eq_true rfl, Nat.le_of_ble_eq_true rfl⟩, Nat.le_of_ble_eq_true rfl, Nat.le_of_ble_eq_true rfl⟩ hP hK hN hD hS hA [0, 1, 2, 3] [] [0, 1, 2, 3] [0] rfl rfl ⟨rfl, rfl, rfl⟩ (by decide) rfl rfl 0 2 rfl rfl rfl (lv_nil hl) rfl (Nat.le_of_ble_eq_true rfl) dX2_shuffle_57 (fun H locs hP hD hS => ?_)
      refine lv_iinc (v := nI i) (lv' := [(5, .int (nI i)), (3, .long ((y3 * 6364136223846793005) + 1442695040888963407)), (0, .ref a0), (1, .long x0)]) hx hb dX2_shuffle_60 hl (k := 1) rfl (pk_m1 i) (by decide) rfl (fun ls hl => ?_)
      refine lv_goto (tgt := 27) hx hb dX2_shuffle_63 (by decide) ?_
      exact ih ((y3 * 6364136223846793005) + 1442695040888963407) (j_X2_exchange_vrow zvrow (nI (i + 1)) ((((((y3 * 6364136223846793005) + 1442695040888963407).toUInt64 >>> ((33 : Int32).toInt64.toUInt64 &&& Int64.toUInt64 63)).toInt64) - ((((y3 * 6364136223846793005) + 1442695040888963407).toUInt64 >>> ((33 : Int32).toInt64.toUInt64 &&& Int64.toUInt64 63)).toInt64) / (((nI (i + 1)) + 1).toInt64) * (((nI (i + 1)) + 1).toInt64)).toInt32)) (by omega) (by rw [← hv_vrow]; simp only [j_X2_shuffle_vrow_27, if_neg hlt]) _ _ hP hD hS ls (lv_sub hl [0, 1, 2, 3] rfl)
  have loop2 : ∀ (n i : Nat) (zvrow : Nat → Int32), i + n = 42 → j_X2_shuffle_vrow_2 vrow x0 n i zvrow = (j_X2_shuffle_vrow vrow x0) → ∀ (H : Heap) (locs : List Loc), va_P D vwCl [(a0, .inr (2, [.ref aR, .ref aF, .ref aG, .int vdrawn, .int vtr, .int vled, .int vmov, .int vw1, .int vw2, va_rf veo, .int veb])), (aF, .inr (0, [.long vh1, .long vt1, .int vp1, .int vk1, .int vg1])), (aG, .inr (0, [.long vh2, .long vt2, .int vp2, .int vk2, .int vg2])), (aR, .inl (cI, 42, .inl zvrow))] H → va_D A [(a0, .inr (2, [.ref aR, .ref aF, .ref aG, .int vdrawn, .int vtr, .int vled, .int vmov, .int vw1, .int vw2, va_rf veo, .int veb])), (aF, .inr (0, [.long vh1, .long vt1, .int vp1, .int vk1, .int vg1])), (aG, .inr (0, [.long vh2, .long vt2, .int vp2, .int vk2, .int vg2])), (aR, .inl (cI, 42, .inl zvrow))] → va_S A s.heap H locs → ∀ (ls : Array Slot), lv_has ls 6 [(3, .int (nI i)), (0, .ref a0), (1, .long x0)] → W p l e rX2_shuffle s m ([.ref a0, .long x0] : List Value).toArray below meth c H locs 0 0 (MQ below (jQv D (jC a0 aR aF aG cI (j_X2_shuffle_vrow vrow x0) vdrawn vtr vled vmov vw1 vw2 veo veb vh1 vt1 vp1 vk1 vg1 vh2 vt2 vp2 vk2 vg2) [(cI, .int)] A) ([.ref a0, .long x0] : List Value).toArray s 0 0 A) (F0 m 2 ls []) := by
    intro n
    induction n with
    | zero =>
      intro i zvrow hin hv_vrow H locs hP hD hS ls hl
      have hge : (42 : Int32) ≤ nI i := by rw [show i = 42 by omega]; decide
      have hgl : ¬ nI i < (42 : Int32) := by rw [show i = 42 by omega]; decide
      refine lv_iload_n hx hb dX2_shuffle_2 rfl (lv_at hl 0 rfl) ?_
      refine lv_bipush (v := 42) hx hb dX2_shuffle_3 (by decide) ?_
      refine lv_icmp_ge (tgt := 21) hx hb dX2_shuffle_5 (by decide) (fun _ => ?_) (fun c_ => absurd hge c_)
      refine lv_lload_n hx hb dX2_shuffle_21 rfl (lv_at hl 2 rfl) ?_
      refine lv_lstore_n (lv' := [(3, .long x0), (0, .ref a0), (1, .long x0)]) hx hb dX2_shuffle_22 rfl hl (by decide) rfl (fun ls hl => ?_)
      refine lv_bipush (v := 41) hx hb dX2_shuffle_23 (by decide) ?_
      refine lv_istore (lv' := [(5, .int 41), (3, .long x0), (0, .ref a0), (1, .long x0)]) hx hb dX2_shuffle_25 hl (by decide) rfl (fun ls hl => ?_)
      exact loop27 41 x0 zvrow (by decide) (by rw [← hv_vrow]; simp only [j_X2_shuffle_vrow_2, if_pos hge, if_neg hgl]) _ _ hP hD hS ls (lv_sub (l' := [(5, .int (nI 41)), (3, .long x0), (0, .ref a0), (1, .long x0)]) hl [0, 1, 2, 3] rfl)
    | succ n ih =>
      intro i zvrow hin hv_vrow H locs hP hD hS ls hl
      have hge : ¬ (42 : Int32) ≤ nI i := nI_ge (a := i) (b := 42) (by omega) (by decide)
      have hgl : nI i < (42 : Int32) := nI_lt (a := i) (b := 42) (by omega) (by decide)
      refine lv_iload_n hx hb dX2_shuffle_2 rfl (lv_at hl 0 rfl) ?_
      refine lv_bipush (v := 42) hx hb dX2_shuffle_3 (by decide) ?_
      refine lv_icmp_ge (tgt := 21) hx hb dX2_shuffle_5 (by decide) (fun c_ => absurd c_ hge) (fun _ => ?_)
      refine lv_aload_n hx hb dX2_shuffle_8 rfl (lv_at hl 1 rfl) ?_
      refine va_get (D := D) (ci := 2) (v := .ref aR) (C := RX2) (T := TX2) (N := 11) hx hb hts inX2_shuffle_X2 hown hK hP 0 rfl rfl 0 (by decide) (hts (.fieldLink RX2 9 "ArchivistTricks" "row" "[I") (by decide +kernel)) (fun _ h9 => h9) rfl dX2_shuffle_9 ?_
      refine lv_iload_n hx hb dX2_shuffle_12 rfl (lv_at hl 0 rfl) ?_
      refine lv_iload_n hx hb dX2_shuffle_13 rfl (lv_at hl 0 rfl) ?_
      refine va_iast hx hb hK hP hD hS 3 0 rfl rfl (i := nI i) (vp_in_nI (by omega) (by decide)) dX2_shuffle_14 (fun H locs hP hD hS => ?_)
      have hP : va_P D vwCl [(a0, .inr (2, [.ref aR, .ref aF, .ref aG, .int vdrawn, .int vtr, .int vled, .int vmov, .int vw1, .int vw2, va_rf veo, .int veb])), (aF, .inr (0, [.long vh1, .long vt1, .int vp1, .int vk1, .int vg1])), (aG, .inr (0, [.long vh2, .long vt2, .int vp2, .int vk2, .int vg2])), (aR, .inl (cI, 42, .inl (upd zvrow (nI i).toNatClampNeg (nI i))))] H := hP
      have hD : va_D A [(a0, .inr (2, [.ref aR, .ref aF, .ref aG, .int vdrawn, .int vtr, .int vled, .int vmov, .int vw1, .int vw2, va_rf veo, .int veb])), (aF, .inr (0, [.long vh1, .long vt1, .int vp1, .int vk1, .int vg1])), (aG, .inr (0, [.long vh2, .long vt2, .int vp2, .int vk2, .int vg2])), (aR, .inl (cI, 42, .inl (upd zvrow (nI i).toNatClampNeg (nI i))))] := hD
      refine lv_iinc (v := nI (i + 1)) (lv' := [(3, .int (nI (i + 1))), (0, .ref a0), (1, .long x0)]) hx hb dX2_shuffle_15 hl (k := 0) rfl (nI_1 i) (by decide) rfl (fun ls hl => ?_)
      refine lv_goto (tgt := 2) hx hb dX2_shuffle_18 (by decide) ?_
      exact ih (i + 1) (upd zvrow (nI i).toNatClampNeg (nI i)) (by omega) (by rw [← hv_vrow]; simp only [j_X2_shuffle_vrow_2, if_neg hge, if_pos hgl]) _ _ hP hD hS ls (lv_sub hl [0, 1, 2] rfl)
  refine lv_iconst (v := 0) hx hb dX2_shuffle_0 (by decide) ?_
  refine lv_istore_n (lv' := [(3, .int 0), (0, .ref a0), (1, .long x0)]) hx hb dX2_shuffle_1 rfl hl (by decide) rfl (fun ls hl => ?_)
  exact loop2 42 0 vrow rfl (by simp only [j_X2_shuffle_vrow]) _ _ hP hD hS ls (lv_sub (l' := [(3, .int (nI 0)), (0, .ref a0), (1, .long x0)]) hl [0, 1, 2] rfl)

abbrev rX2_putTurnedUpLast : Room := { frames := 1, cells := 0, slots := 0, locals := 64 }
def j_X2_putTurnedUpLast_vrow (vrow : Nat → Int32) : Nat → Int32 := upd (va_cpy vrow vrow (13 : Int32).toNatClampNeg (12 : Int32).toNatClampNeg (29 : Int32).toNatClampNeg) (41 : Int32).toNatClampNeg (vrow (12 : Int32).toNatClampNeg)
theorem inX2_putTurnedUpLast_X2 : ∀ w ∈ u_ws RX2 TX2 11, w ∈ wsX2_putTurnedUpLast := by decide +kernel
set_option maxRecDepth 100000 in
set_option maxHeartbeats 8000000 in
theorem c_X2_putTurnedUpLast {l : Launch} {D : va_G} (a0 : Nat) (aR : Nat) (aF : Nat) (aG : Nat) (cI : ClassId) (vrow : Nat → Int32) (vdrawn : Int32) (vtr : Int32) (vled : Int32) (vmov : Int32) (vw1 : Int32) (vw2 : Int32) (veo : Option Nat) (veb : Int32) (vh1 : Int64) (vt1 : Int64) (vp1 : Int32) (vk1 : Int32) (vg1 : Int32) (vh2 : Int64) (vt2 : Int64) (vp2 : Int32) (vk2 : Int32) (vg2 : Int32) : jWv l yX2_putTurnedUpLast wsX2_putTurnedUpLast rX2_putTurnedUpLast D [.ref a0] (jC a0 aR aF aG cI vrow vdrawn vtr vled vmov vw1 vw2 veo veb vh1 vt1 vp1 vk1 vg1 vh2 vt2 vp2 vk2 vg2) [(cI, .int)] (jC a0 aR aF aG cI (j_X2_putTurnedUpLast_vrow vrow) vdrawn vtr vled vmov vw1 vw2 veo veb vh1 vt1 vp1 vk1 vg1 vh2 vt2 vp2 vk2 vg2) := by
  refine jW_of (QQ := fun A => (jQv D (jC a0 aR aF aG cI (j_X2_putTurnedUpLast_vrow vrow) vdrawn vtr vled vmov vw1 vw2 veo veb vh1 vt1 vp1 vk1 vg1 vh2 vt2 vp2 vk2 vg2) [(cI, .int)] A)) (cc := cX2_putTurnedUpLast) (maxL := 2) (ret := none) (by decide) rfl (Nat.le_of_ble_eq_true rfl) ?_
  intro p e s m below meth c ls A S hr hlocks hini hP hK hN hD hS hA hl
  obtain ⟨hx, hb, hml, hown, hts⟩ := id S
  have hl : lv_has ls 2 [(0, .ref a0)] := hl
  refine lv_aload_n hx hb dX2_putTurnedUpLast_0 rfl (lv_at hl 0 rfl) ?_
  refine va_get (D := D) (ci := 2) (v := .ref aR) (C := RX2) (T := TX2) (N := 11) hx hb hts inX2_putTurnedUpLast_X2 hown hK hP 0 rfl rfl 0 (by decide) (hts (.fieldLink RX2 9 "ArchivistTricks" "row" "[I") (by decide +kernel)) (fun _ h9 => h9) rfl dX2_putTurnedUpLast_1 ?_
  refine lv_bipush (v := 12) hx hb dX2_putTurnedUpLast_4 (by decide) ?_
  refine va_iald hx hb hK hP 3 0 rfl rfl (i := 12) (by unfold vp_in; decide) dX2_putTurnedUpLast_6 ?_
  refine lv_istore_n (lv' := [(1, .int (vrow (12 : Int32).toNatClampNeg)), (0, .ref a0)]) hx hb dX2_putTurnedUpLast_7 rfl hl (by decide) rfl (fun ls hl => ?_)
  refine lv_aload_n hx hb dX2_putTurnedUpLast_8 rfl (lv_at hl 1 rfl) ?_
  refine va_get (D := D) (ci := 2) (v := .ref aR) (C := RX2) (T := TX2) (N := 11) hx hb hts inX2_putTurnedUpLast_X2 hown hK hP 0 rfl rfl 0 (by decide) (hts (.fieldLink RX2 9 "ArchivistTricks" "row" "[I") (by decide +kernel)) (fun _ h9 => h9) rfl dX2_putTurnedUpLast_9 ?_
  refine lv_bipush (v := 13) hx hb dX2_putTurnedUpLast_12 (by decide) ?_
  refine lv_aload_n hx hb dX2_putTurnedUpLast_14 rfl (lv_at hl 1 rfl) ?_
  refine va_get (D := D) (ci := 2) (v := .ref aR) (C := RX2) (T := TX2) (N := 11) hx hb hts inX2_putTurnedUpLast_X2 hown hK hP 0 rfl rfl 0 (by decide) (hts (.fieldLink RX2 9 "ArchivistTricks" "row" "[I") (by decide +kernel)) (fun _ h9 => h9) rfl dX2_putTurnedUpLast_15 ?_
  refine lv_bipush (v := 12) hx hb dX2_putTurnedUpLast_18 (by decide) ?_
  refine lv_bipush (v := 29) hx hb dX2_putTurnedUpLast_20 (by decide) ?_
  refine va_copyi (cc := cX2_putTurnedUpLast) hx hb (hml.trans hl.1.symm) hown (hts (.methodLink RX2 182 arraycopyName) (by decide +kernel)) (hts (.native arraycopyName) (by decide +kernel)) (hts (.static arraycopyName) (by decide +kernel)) (hts (.initialized "java/lang/System") (by decide +kernel)) hK hP hD hS 3 3 0 0 rfl rfl rfl rfl rfl (sp := 13) (dp := 12) (n := 29) (by decide) (by decide) (by decide) (by decide) (by decide) (fun _ _ => rfl) (by decide) (by decide) dX2_putTurnedUpLast_22 (fun H locs hP hD hS => ?_)
  have hP : va_P D vwCl [(a0, .inr (2, [.ref aR, .ref aF, .ref aG, .int vdrawn, .int vtr, .int vled, .int vmov, .int vw1, .int vw2, va_rf veo, .int veb])), (aF, .inr (0, [.long vh1, .long vt1, .int vp1, .int vk1, .int vg1])), (aG, .inr (0, [.long vh2, .long vt2, .int vp2, .int vk2, .int vg2])), (aR, .inl (cI, 42, .inl (va_cpy vrow vrow (13 : Int32).toNatClampNeg (12 : Int32).toNatClampNeg (29 : Int32).toNatClampNeg)))] H := hP
  have hD : va_D A [(a0, .inr (2, [.ref aR, .ref aF, .ref aG, .int vdrawn, .int vtr, .int vled, .int vmov, .int vw1, .int vw2, va_rf veo, .int veb])), (aF, .inr (0, [.long vh1, .long vt1, .int vp1, .int vk1, .int vg1])), (aG, .inr (0, [.long vh2, .long vt2, .int vp2, .int vk2, .int vg2])), (aR, .inl (cI, 42, .inl (va_cpy vrow vrow (13 : Int32).toNatClampNeg (12 : Int32).toNatClampNeg (29 : Int32).toNatClampNeg)))] := hD
  refine lv_aload_n hx hb dX2_putTurnedUpLast_25 rfl (lv_at hl 1 rfl) ?_
  refine va_get (D := D) (ci := 2) (v := .ref aR) (C := RX2) (T := TX2) (N := 11) hx hb hts inX2_putTurnedUpLast_X2 hown hK hP 0 rfl rfl 0 (by decide) (hts (.fieldLink RX2 9 "ArchivistTricks" "row" "[I") (by decide +kernel)) (fun _ h9 => h9) rfl dX2_putTurnedUpLast_26 ?_
  refine lv_bipush (v := 41) hx hb dX2_putTurnedUpLast_29 (by decide) ?_
  refine lv_iload_n hx hb dX2_putTurnedUpLast_31 rfl (lv_at hl 0 rfl) ?_
  refine va_iast hx hb hK hP hD hS 3 0 rfl rfl (i := 41) (by unfold vp_in; decide) dX2_putTurnedUpLast_32 (fun H locs hP hD hS => ?_)
  have hP : va_P D vwCl [(a0, .inr (2, [.ref aR, .ref aF, .ref aG, .int vdrawn, .int vtr, .int vled, .int vmov, .int vw1, .int vw2, va_rf veo, .int veb])), (aF, .inr (0, [.long vh1, .long vt1, .int vp1, .int vk1, .int vg1])), (aG, .inr (0, [.long vh2, .long vt2, .int vp2, .int vk2, .int vg2])), (aR, .inl (cI, 42, .inl (upd (va_cpy vrow vrow (13 : Int32).toNatClampNeg (12 : Int32).toNatClampNeg (29 : Int32).toNatClampNeg) (41 : Int32).toNatClampNeg (vrow (12 : Int32).toNatClampNeg))))] H := hP
  have hD : va_D A [(a0, .inr (2, [.ref aR, .ref aF, .ref aG, .int vdrawn, .int vtr, .int vled, .int vmov, .int vw1, .int vw2, va_rf veo, .int veb])), (aF, .inr (0, [.long vh1, .long vt1, .int vp1, .int vk1, .int vg1])), (aG, .inr (0, [.long vh2, .long vt2, .int vp2, .int vk2, .int vg2])), (aR, .inl (cI, 42, .inl (upd (va_cpy vrow vrow (13 : Int32).toNatClampNeg (12 : Int32).toNatClampNeg (29 : Int32).toNatClampNeg) (41 : Int32).toNatClampNeg (vrow (12 : Int32).toNatClampNeg))))] := hD
  exact jw_vret hx hb hr hlocks hK hP hD hS dX2_putTurnedUpLast_33 (by  simp only [j_X2_putTurnedUpLast_vrow])

abbrev rX2_deal : Room := { frames := 2, cells := 0, slots := 0, locals := 85 }
def j_X2_deal (vrow : Nat → Int32) (x0 : Int64) : Int32 := (if j_X2_isMildew ((j_X2_shuffle_vrow vrow x0) (12 : Int32).toNatClampNeg) = 0 then ((j_X2_shuffle_vrow vrow x0) (12 : Int32).toNatClampNeg) / 10 else 0)
def j_X2_deal_vrow (vrow : Nat → Int32) (x0 : Int64) : Nat → Int32 := j_X2_putTurnedUpLast_vrow (j_X2_shuffle_vrow vrow x0)
def j_X2_deal_vdrawn  : Int32 := 12
def j_X2_deal_vtr (vrow : Nat → Int32) (x0 : Int64) : Int32 := (if j_X2_isMildew ((j_X2_shuffle_vrow vrow x0) (12 : Int32).toNatClampNeg) = 0 then ((j_X2_shuffle_vrow vrow x0) (12 : Int32).toNatClampNeg) / 10 else 0)
def j_X2_deal_vled  : Int32 := (-1)
def j_X2_deal_vmov  : Int32 := 0
def j_X2_deal_veb  : Int32 := 0
def j_X2_deal_vh1 (vrow : Nat → Int32) (x0 : Int64) : Int64 := j_X0_begin_vh (j_X2_handFrom (j_X2_putTurnedUpLast_vrow (j_X2_shuffle_vrow vrow x0)) 0)
def j_X2_deal_vt1  : Int64 := j_X0_begin_vt
def j_X2_deal_vp1  : Int32 := j_X0_begin_vp
def j_X2_deal_vk1  : Int32 := j_X0_begin_vk
def j_X2_deal_vg1  : Int32 := j_X0_begin_vg
def j_X2_deal_vh2 (vrow : Nat → Int32) (x0 : Int64) : Int64 := j_X0_begin_vh (j_X2_handFrom (j_X2_putTurnedUpLast_vrow (j_X2_shuffle_vrow vrow x0)) 6)
def j_X2_deal_vt2  : Int64 := j_X0_begin_vt
def j_X2_deal_vp2  : Int32 := j_X0_begin_vp
def j_X2_deal_vk2  : Int32 := j_X0_begin_vk
def j_X2_deal_vg2  : Int32 := j_X0_begin_vg
theorem inX2_deal_X2 : ∀ w ∈ u_ws RX2 TX2 11, w ∈ wsX2_deal := by decide +kernel
set_option maxRecDepth 100000 in
set_option maxHeartbeats 8000000 in
theorem c_X2_deal {l : Launch} {D : va_G} (a0 : Nat) (aR : Nat) (aF : Nat) (aG : Nat) (cI : ClassId) (vrow : Nat → Int32) (vdrawn : Int32) (vtr : Int32) (vled : Int32) (vmov : Int32) (vw1 : Int32) (vw2 : Int32) (veo : Option Nat) (veb : Int32) (vh1 : Int64) (vt1 : Int64) (vp1 : Int32) (vk1 : Int32) (vg1 : Int32) (vh2 : Int64) (vt2 : Int64) (vp2 : Int32) (vk2 : Int32) (vg2 : Int32) (x0 : Int64) : jWi l yX2_deal wsX2_deal rX2_deal D [.ref a0, .long x0] (jC a0 aR aF aG cI vrow vdrawn vtr vled vmov vw1 vw2 veo veb vh1 vt1 vp1 vk1 vg1 vh2 vt2 vp2 vk2 vg2) [(cI, .int)] (j_X2_deal vrow x0) (jC a0 aR aF aG cI (j_X2_deal_vrow vrow x0) (j_X2_deal_vdrawn) (j_X2_deal_vtr vrow x0) (j_X2_deal_vled) (j_X2_deal_vmov) vw1 vw2 veo (j_X2_deal_veb) (j_X2_deal_vh1 vrow x0) (j_X2_deal_vt1) (j_X2_deal_vp1) (j_X2_deal_vk1) (j_X2_deal_vg1) (j_X2_deal_vh2 vrow x0) (j_X2_deal_vt2) (j_X2_deal_vp2) (j_X2_deal_vk2) (j_X2_deal_vg2)) := by
  refine jW_of (QQ := fun A => (jQi D (j_X2_deal vrow x0) (jC a0 aR aF aG cI (j_X2_deal_vrow vrow x0) (j_X2_deal_vdrawn) (j_X2_deal_vtr vrow x0) (j_X2_deal_vled) (j_X2_deal_vmov) vw1 vw2 veo (j_X2_deal_veb) (j_X2_deal_vh1 vrow x0) (j_X2_deal_vt1) (j_X2_deal_vp1) (j_X2_deal_vk1) (j_X2_deal_vg1) (j_X2_deal_vh2 vrow x0) (j_X2_deal_vt2) (j_X2_deal_vp2) (j_X2_deal_vk2) (j_X2_deal_vg2)) [(cI, .int)] A)) (cc := cX2_deal) (maxL := 4) (ret := (some .int)) (by decide) rfl (Nat.le_of_ble_eq_true rfl) ?_
  intro p e s m below meth c ls A S hr hlocks hini hP hK hN hD hS hA hl
  obtain ⟨hx, hb, hml, hown, hts⟩ := id S
  have hl : lv_has ls 4 [(0, .ref a0), (1, .long x0)] := hl
  refine lv_aload_n hx hb dX2_deal_0 rfl (lv_at hl 0 rfl) ?_
  refine lv_lload_n hx hb dX2_deal_1 rfl (lv_at hl 1 rfl) ?_
  refine jw_callVv (n := 1) (C := RX2) (As := [.long x0]) (rest := []) (wr := []) (wn := [(a0, .inr (2, [.ref aR, .ref aF, .ref aG, .int vdrawn, .int vtr, .int vled, .int vmov, .int vw1, .int vw2, va_rf veo, .int veb])), (aF, .inr (0, [.long vh1, .long vt1, .int vp1, .int vk1, .int vg1])), (aG, .inr (0, [.long vh2, .long vt2, .int vp2, .int vk2, .int vg2])), (aR, .inl (cI, 42, .inl (j_X2_shuffle_vrow vrow x0)))]) S (c_X2_shuffle a0 aR aF aG cI vrow vdrawn vtr vled vmov vw1 vw2 veo veb vh1 vt1 vp1 vk1 vg1 vh2 vt2 vp2 vk2 vg2 x0) gX2_deal_X2_shuffle rfl (by decide +kernel) rfl ⟨⟨rfl, rfl⟩, ⟨Nat.le_of_ble_eq_true rfl, Nat.le_of_ble_eq_true rfl⟩, Nat.le_of_ble_eq_true rfl, Nat.le_of_ble_eq_true rfl⟩ hP hK hN hD hS hA [0, 1, 2, 3] [] [0, 1, 2, 3] [0] rfl rfl ⟨rfl, rfl, rfl⟩ (by decide) rfl rfl 0 2 rfl rfl rfl (lv_nil hl) rfl (Nat.le_of_ble_eq_true rfl) dX2_deal_2 (fun H locs hP hD hS => ?_)
  refine lv_aload_n hx hb dX2_deal_5 rfl (lv_at hl 0 rfl) ?_
  refine va_get (D := D) (ci := 2) (v := .ref aR) (C := RX2) (T := TX2) (N := 11) hx hb hts inX2_deal_X2 hown hK hP 0 rfl rfl 0 (by decide) (hts (.fieldLink RX2 9 "ArchivistTricks" "row" "[I") (by decide +kernel)) (fun _ h9 => h9) rfl dX2_deal_6 ?_
  refine lv_bipush (v := 12) hx hb dX2_deal_9 (by decide) ?_
  refine va_iald hx hb hK hP 3 0 rfl rfl (i := 12) (by unfold vp_in; decide) dX2_deal_11 ?_
  refine lv_istore_n (lv' := [(3, .int ((j_X2_shuffle_vrow vrow x0) (12 : Int32).toNatClampNeg)), (0, .ref a0), (1, .long x0)]) hx hb dX2_deal_12 rfl hl (by decide) rfl (fun ls hl => ?_)
  refine lv_aload_n hx hb dX2_deal_13 rfl (lv_at hl 1 rfl) ?_
  refine jw_callVv (n := 0) (C := RX2) (As := []) (rest := []) (wr := []) (wn := [(a0, .inr (2, [.ref aR, .ref aF, .ref aG, .int vdrawn, .int vtr, .int vled, .int vmov, .int vw1, .int vw2, va_rf veo, .int veb])), (aF, .inr (0, [.long vh1, .long vt1, .int vp1, .int vk1, .int vg1])), (aG, .inr (0, [.long vh2, .long vt2, .int vp2, .int vk2, .int vg2])), (aR, .inl (cI, 42, .inl (j_X2_putTurnedUpLast_vrow (j_X2_shuffle_vrow vrow x0))))]) S (c_X2_putTurnedUpLast a0 aR aF aG cI (j_X2_shuffle_vrow vrow x0) vdrawn vtr vled vmov vw1 vw2 veo veb vh1 vt1 vp1 vk1 vg1 vh2 vt2 vp2 vk2 vg2) gX2_deal_X2_putTurnedUpLast rfl (by decide +kernel) rfl ⟨⟨rfl, rfl⟩, ⟨Nat.le_of_ble_eq_true rfl, Nat.le_of_ble_eq_true rfl⟩, Nat.le_of_ble_eq_true rfl, Nat.le_of_ble_eq_true rfl⟩ hP hK hN hD hS hA [0, 1, 2, 3] [] [0, 1, 2, 3] [0] rfl rfl ⟨rfl, rfl, rfl⟩ (by decide) rfl rfl 0 2 rfl rfl rfl (lv_nil hl) rfl (Nat.le_of_ble_eq_true rfl) dX2_deal_14 (fun H locs hP hD hS => ?_)
  refine lv_aload_n hx hb dX2_deal_17 rfl (lv_at hl 1 rfl) ?_
  refine va_get (D := D) (ci := 2) (v := .ref aF) (C := RX2) (T := TX2) (N := 11) hx hb hts inX2_deal_X2 hown hK hP 0 rfl rfl 1 (by decide) (hts (.fieldLink RX2 16 "ArchivistTricks" "first" "LArchivistTricks$Archivist;") (by decide +kernel)) (fun _ h9 => h9) rfl dX2_deal_18 ?_
  refine lv_aload_n hx hb dX2_deal_21 rfl (lv_at hl 1 rfl) ?_
  refine lv_iconst (v := 0) hx hb dX2_deal_22 (by decide) ?_
  refine jr_callV (n := 1) (C := RX2) (As := [.int 0]) (rest := [.ref aF]) S (c_X2_handFrom a0 aR aF aG cI (j_X2_putTurnedUpLast_vrow (j_X2_shuffle_vrow vrow x0)) vdrawn vtr vled vmov vw1 vw2 veo veb vh1 vt1 vp1 vk1 vg1 vh2 vt2 vp2 vk2 vg2 0) gX2_deal_X2_handFrom rfl (by decide +kernel) rfl ⟨⟨rfl, rfl⟩, ⟨Nat.le_of_ble_eq_true rfl, Nat.le_of_ble_eq_true rfl⟩, Nat.le_of_ble_eq_true rfl, Nat.le_of_ble_eq_true rfl⟩ hP hK hN [0, 1, 2, 3] [0] rfl rfl 0 2 rfl rfl rfl (lv_nil hl) rfl (Nat.le_of_ble_eq_true rfl) dX2_deal_23 ?_
  refine jw_callVv (n := 1) (C := RX0) (As := [.long (j_X2_handFrom (j_X2_putTurnedUpLast_vrow (j_X2_shuffle_vrow vrow x0)) 0)]) (rest := []) (wr := [(a0, .inr (2, [.ref aR, .ref aF, .ref aG, .int vdrawn, .int vtr, .int vled, .int vmov, .int vw1, .int vw2, va_rf veo, .int veb])), (aG, .inr (0, [.long vh2, .long vt2, .int vp2, .int vk2, .int vg2])), (aR, .inl (cI, 42, .inl (j_X2_putTurnedUpLast_vrow (j_X2_shuffle_vrow vrow x0))))]) (wn := [(a0, .inr (2, [.ref aR, .ref aF, .ref aG, .int vdrawn, .int vtr, .int vled, .int vmov, .int vw1, .int vw2, va_rf veo, .int veb])), (aF, .inr (0, [.long (j_X0_begin_vh (j_X2_handFrom (j_X2_putTurnedUpLast_vrow (j_X2_shuffle_vrow vrow x0)) 0)), .long j_X0_begin_vt, .int j_X0_begin_vp, .int j_X0_begin_vk, .int j_X0_begin_vg])), (aG, .inr (0, [.long vh2, .long vt2, .int vp2, .int vk2, .int vg2])), (aR, .inl (cI, 42, .inl (j_X2_putTurnedUpLast_vrow (j_X2_shuffle_vrow vrow x0))))]) S (c_X0_begin aF vh1 vt1 vp1 vk1 vg1 (j_X2_handFrom (j_X2_putTurnedUpLast_vrow (j_X2_shuffle_vrow vrow x0)) 0)) gX2_deal_X0_begin rfl (by decide +kernel) rfl ⟨⟨rfl, rfl⟩, ⟨Nat.le_of_ble_eq_true rfl, Nat.le_of_ble_eq_true rfl⟩, Nat.le_of_ble_eq_true rfl, Nat.le_of_ble_eq_true rfl⟩ hP hK hN hD hS hA [1] [0, 2, 3] [0, 3, 1, 2] [] rfl rfl ⟨rfl, rfl, rfl⟩ (by decide) rfl rfl 0 0 rfl rfl rfl (lv_nil hl) rfl (Nat.le_of_ble_eq_true rfl) dX2_deal_26 (fun H locs hP hD hS => ?_)
  refine lv_aload_n hx hb dX2_deal_29 rfl (lv_at hl 1 rfl) ?_
  refine va_get (D := D) (ci := 2) (v := .ref aG) (C := RX2) (T := TX2) (N := 11) hx hb hts inX2_deal_X2 hown hK hP 0 rfl rfl 2 (by decide) (hts (.fieldLink RX2 20 "ArchivistTricks" "second" "LArchivistTricks$Archivist;") (by decide +kernel)) (fun _ h9 => h9) rfl dX2_deal_30 ?_
  refine lv_aload_n hx hb dX2_deal_33 rfl (lv_at hl 1 rfl) ?_
  refine lv_bipush (v := 6) hx hb dX2_deal_34 (by decide) ?_
  refine jr_callV (n := 1) (C := RX2) (As := [.int 6]) (rest := [.ref aG]) S (c_X2_handFrom a0 aR aF aG cI (j_X2_putTurnedUpLast_vrow (j_X2_shuffle_vrow vrow x0)) vdrawn vtr vled vmov vw1 vw2 veo veb (j_X0_begin_vh (j_X2_handFrom (j_X2_putTurnedUpLast_vrow (j_X2_shuffle_vrow vrow x0)) 0)) j_X0_begin_vt j_X0_begin_vp j_X0_begin_vk j_X0_begin_vg vh2 vt2 vp2 vk2 vg2 6) gX2_deal_X2_handFrom rfl (by decide +kernel) rfl ⟨⟨rfl, rfl⟩, ⟨Nat.le_of_ble_eq_true rfl, Nat.le_of_ble_eq_true rfl⟩, Nat.le_of_ble_eq_true rfl, Nat.le_of_ble_eq_true rfl⟩ hP hK hN [0, 1, 2, 3] [0] rfl rfl 0 2 rfl rfl rfl (lv_nil hl) rfl (Nat.le_of_ble_eq_true rfl) dX2_deal_36 ?_
  refine jw_callVv (n := 1) (C := RX0) (As := [.long (j_X2_handFrom (j_X2_putTurnedUpLast_vrow (j_X2_shuffle_vrow vrow x0)) 6)]) (rest := []) (wr := [(a0, .inr (2, [.ref aR, .ref aF, .ref aG, .int vdrawn, .int vtr, .int vled, .int vmov, .int vw1, .int vw2, va_rf veo, .int veb])), (aF, .inr (0, [.long (j_X0_begin_vh (j_X2_handFrom (j_X2_putTurnedUpLast_vrow (j_X2_shuffle_vrow vrow x0)) 0)), .long j_X0_begin_vt, .int j_X0_begin_vp, .int j_X0_begin_vk, .int j_X0_begin_vg])), (aR, .inl (cI, 42, .inl (j_X2_putTurnedUpLast_vrow (j_X2_shuffle_vrow vrow x0))))]) (wn := [(a0, .inr (2, [.ref aR, .ref aF, .ref aG, .int vdrawn, .int vtr, .int vled, .int vmov, .int vw1, .int vw2, va_rf veo, .int veb])), (aF, .inr (0, [.long (j_X0_begin_vh (j_X2_handFrom (j_X2_putTurnedUpLast_vrow (j_X2_shuffle_vrow vrow x0)) 0)), .long j_X0_begin_vt, .int j_X0_begin_vp, .int j_X0_begin_vk, .int j_X0_begin_vg])), (aG, .inr (0, [.long (j_X0_begin_vh (j_X2_handFrom (j_X2_putTurnedUpLast_vrow (j_X2_shuffle_vrow vrow x0)) 6)), .long j_X0_begin_vt, .int j_X0_begin_vp, .int j_X0_begin_vk, .int j_X0_begin_vg])), (aR, .inl (cI, 42, .inl (j_X2_putTurnedUpLast_vrow (j_X2_shuffle_vrow vrow x0))))]) S (c_X0_begin aG vh2 vt2 vp2 vk2 vg2 (j_X2_handFrom (j_X2_putTurnedUpLast_vrow (j_X2_shuffle_vrow vrow x0)) 6)) gX2_deal_X0_begin rfl (by decide +kernel) rfl ⟨⟨rfl, rfl⟩, ⟨Nat.le_of_ble_eq_true rfl, Nat.le_of_ble_eq_true rfl⟩, Nat.le_of_ble_eq_true rfl, Nat.le_of_ble_eq_true rfl⟩ hP hK hN hD hS hA [2] [0, 1, 3] [0, 1, 3, 2] [] rfl rfl ⟨rfl, rfl, rfl⟩ (by decide) rfl rfl 0 0 rfl rfl rfl (lv_nil hl) rfl (Nat.le_of_ble_eq_true rfl) dX2_deal_39 (fun H locs hP hD hS => ?_)
  refine lv_aload_n hx hb dX2_deal_42 rfl (lv_at hl 1 rfl) ?_
  refine lv_bipush (v := 12) hx hb dX2_deal_43 (by decide) ?_
  refine va_put (D := D) (ci := 2) (v := .int 12) (ty := .int) (C := RX2) (T := TX2) (N := 11) hx hb hts inX2_deal_X2 tyX2 tyX2_ok nmX2 hown hK hP hD hS 0 rfl rfl 3 (by decide) (hts (.fieldLink RX2 23 "ArchivistTricks" "drawn" "I") (by decide +kernel)) (fun _ h9 => h9) rfl (by decide +kernel) rfl rfl (Nat.le_of_ble_eq_true rfl) dX2_deal_45 (fun H locs hP hD hS => ?_)
  have hP : va_P D vwCl [(a0, .inr (2, [.ref aR, .ref aF, .ref aG, .int 12, .int vtr, .int vled, .int vmov, .int vw1, .int vw2, va_rf veo, .int veb])), (aF, .inr (0, [.long (j_X0_begin_vh (j_X2_handFrom (j_X2_putTurnedUpLast_vrow (j_X2_shuffle_vrow vrow x0)) 0)), .long j_X0_begin_vt, .int j_X0_begin_vp, .int j_X0_begin_vk, .int j_X0_begin_vg])), (aG, .inr (0, [.long (j_X0_begin_vh (j_X2_handFrom (j_X2_putTurnedUpLast_vrow (j_X2_shuffle_vrow vrow x0)) 6)), .long j_X0_begin_vt, .int j_X0_begin_vp, .int j_X0_begin_vk, .int j_X0_begin_vg])), (aR, .inl (cI, 42, .inl (j_X2_putTurnedUpLast_vrow (j_X2_shuffle_vrow vrow x0))))] H := hP
  have hD : va_D A [(a0, .inr (2, [.ref aR, .ref aF, .ref aG, .int 12, .int vtr, .int vled, .int vmov, .int vw1, .int vw2, va_rf veo, .int veb])), (aF, .inr (0, [.long (j_X0_begin_vh (j_X2_handFrom (j_X2_putTurnedUpLast_vrow (j_X2_shuffle_vrow vrow x0)) 0)), .long j_X0_begin_vt, .int j_X0_begin_vp, .int j_X0_begin_vk, .int j_X0_begin_vg])), (aG, .inr (0, [.long (j_X0_begin_vh (j_X2_handFrom (j_X2_putTurnedUpLast_vrow (j_X2_shuffle_vrow vrow x0)) 6)), .long j_X0_begin_vt, .int j_X0_begin_vp, .int j_X0_begin_vk, .int j_X0_begin_vg])), (aR, .inl (cI, 42, .inl (j_X2_putTurnedUpLast_vrow (j_X2_shuffle_vrow vrow x0))))] := hD
  refine lv_aload_n hx hb dX2_deal_48 rfl (lv_at hl 1 rfl) ?_
  refine lv_iload_n hx hb dX2_deal_49 rfl (lv_at hl 0 rfl) ?_
  refine jr_callS (n := 1) (As := [.int ((j_X2_shuffle_vrow vrow x0) (12 : Int32).toNatClampNeg)]) (rest := [.ref a0]) S (c_X2_isMildew ((j_X2_shuffle_vrow vrow x0) (12 : Int32).toNatClampNeg)) gX2_deal_X2_isMildew rfl (by decide +kernel) rfl ⟨⟨rfl, rfl⟩, ⟨Nat.le_of_ble_eq_true rfl, Nat.le_of_ble_eq_true rfl⟩, Nat.le_of_ble_eq_true rfl, Nat.le_of_ble_eq_true rfl⟩ hP hK hN [] [] rfl rfl (lv_nil hl) rfl (Nat.le_of_ble_eq_true rfl) dX2_deal_50 ?_
  refine lv_if_eq (tgt := 60) hx hb dX2_deal_53 (by decide) (fun c_1 => ?_) (fun c_1 => ?_)
  · skip
    refine lv_iload_n hx hb dX2_deal_60 rfl (lv_at hl 0 rfl) ?_
    refine lv_bipush (v := 10) hx hb dX2_deal_61 (by decide) ?_
    refine lv_idiv hx hb dX2_deal_63 (by decide) ?_
    refine va_put (D := D) (ci := 2) (v := .int (((j_X2_shuffle_vrow vrow x0) (12 : Int32).toNatClampNeg) / 10)) (ty := .int) (C := RX2) (T := TX2) (N := 11) hx hb hts inX2_deal_X2 tyX2 tyX2_ok nmX2 hown hK hP hD hS 0 rfl rfl 4 (by decide) (hts (.fieldLink RX2 27 "ArchivistTricks" "trumpProvenance" "I") (by decide +kernel)) (fun _ h9 => h9) rfl (by decide +kernel) rfl rfl (Nat.le_of_ble_eq_true rfl) dX2_deal_64 (fun H locs hP hD hS => ?_)
    have hP : va_P D vwCl [(a0, .inr (2, [.ref aR, .ref aF, .ref aG, .int 12, .int (((j_X2_shuffle_vrow vrow x0) (12 : Int32).toNatClampNeg) / 10), .int vled, .int vmov, .int vw1, .int vw2, va_rf veo, .int veb])), (aF, .inr (0, [.long (j_X0_begin_vh (j_X2_handFrom (j_X2_putTurnedUpLast_vrow (j_X2_shuffle_vrow vrow x0)) 0)), .long j_X0_begin_vt, .int j_X0_begin_vp, .int j_X0_begin_vk, .int j_X0_begin_vg])), (aG, .inr (0, [.long (j_X0_begin_vh (j_X2_handFrom (j_X2_putTurnedUpLast_vrow (j_X2_shuffle_vrow vrow x0)) 6)), .long j_X0_begin_vt, .int j_X0_begin_vp, .int j_X0_begin_vk, .int j_X0_begin_vg])), (aR, .inl (cI, 42, .inl (j_X2_putTurnedUpLast_vrow (j_X2_shuffle_vrow vrow x0))))] H := hP
    have hD : va_D A [(a0, .inr (2, [.ref aR, .ref aF, .ref aG, .int 12, .int (((j_X2_shuffle_vrow vrow x0) (12 : Int32).toNatClampNeg) / 10), .int vled, .int vmov, .int vw1, .int vw2, va_rf veo, .int veb])), (aF, .inr (0, [.long (j_X0_begin_vh (j_X2_handFrom (j_X2_putTurnedUpLast_vrow (j_X2_shuffle_vrow vrow x0)) 0)), .long j_X0_begin_vt, .int j_X0_begin_vp, .int j_X0_begin_vk, .int j_X0_begin_vg])), (aG, .inr (0, [.long (j_X0_begin_vh (j_X2_handFrom (j_X2_putTurnedUpLast_vrow (j_X2_shuffle_vrow vrow x0)) 6)), .long j_X0_begin_vt, .int j_X0_begin_vp, .int j_X0_begin_vk, .int j_X0_begin_vg])), (aR, .inl (cI, 42, .inl (j_X2_putTurnedUpLast_vrow (j_X2_shuffle_vrow vrow x0))))] := hD
    refine lv_aload_n hx hb dX2_deal_67 rfl (lv_at hl 1 rfl) ?_
    refine lv_iconst (v := (-1)) hx hb dX2_deal_68 (by decide) ?_
    refine va_put (D := D) (ci := 2) (v := .int (-1)) (ty := .int) (C := RX2) (T := TX2) (N := 11) hx hb hts inX2_deal_X2 tyX2 tyX2_ok nmX2 hown hK hP hD hS 0 rfl rfl 5 (by decide) (hts (.fieldLink RX2 30 "ArchivistTricks" "ledCard" "I") (by decide +kernel)) (fun _ h9 => h9) rfl (by decide +kernel) rfl rfl (Nat.le_of_ble_eq_true rfl) dX2_deal_69 (fun H locs hP hD hS => ?_)
    have hP : va_P D vwCl [(a0, .inr (2, [.ref aR, .ref aF, .ref aG, .int 12, .int (((j_X2_shuffle_vrow vrow x0) (12 : Int32).toNatClampNeg) / 10), .int (-1), .int vmov, .int vw1, .int vw2, va_rf veo, .int veb])), (aF, .inr (0, [.long (j_X0_begin_vh (j_X2_handFrom (j_X2_putTurnedUpLast_vrow (j_X2_shuffle_vrow vrow x0)) 0)), .long j_X0_begin_vt, .int j_X0_begin_vp, .int j_X0_begin_vk, .int j_X0_begin_vg])), (aG, .inr (0, [.long (j_X0_begin_vh (j_X2_handFrom (j_X2_putTurnedUpLast_vrow (j_X2_shuffle_vrow vrow x0)) 6)), .long j_X0_begin_vt, .int j_X0_begin_vp, .int j_X0_begin_vk, .int j_X0_begin_vg])), (aR, .inl (cI, 42, .inl (j_X2_putTurnedUpLast_vrow (j_X2_shuffle_vrow vrow x0))))] H := hP
    have hD : va_D A [(a0, .inr (2, [.ref aR, .ref aF, .ref aG, .int 12, .int (((j_X2_shuffle_vrow vrow x0) (12 : Int32).toNatClampNeg) / 10), .int (-1), .int vmov, .int vw1, .int vw2, va_rf veo, .int veb])), (aF, .inr (0, [.long (j_X0_begin_vh (j_X2_handFrom (j_X2_putTurnedUpLast_vrow (j_X2_shuffle_vrow vrow x0)) 0)), .long j_X0_begin_vt, .int j_X0_begin_vp, .int j_X0_begin_vk, .int j_X0_begin_vg])), (aG, .inr (0, [.long (j_X0_begin_vh (j_X2_handFrom (j_X2_putTurnedUpLast_vrow (j_X2_shuffle_vrow vrow x0)) 6)), .long j_X0_begin_vt, .int j_X0_begin_vp, .int j_X0_begin_vk, .int j_X0_begin_vg])), (aR, .inl (cI, 42, .inl (j_X2_putTurnedUpLast_vrow (j_X2_shuffle_vrow vrow x0))))] := hD
    refine lv_aload_n hx hb dX2_deal_72 rfl (lv_at hl 1 rfl) ?_
    refine lv_iconst (v := 0) hx hb dX2_deal_73 (by decide) ?_
    refine va_put (D := D) (ci := 2) (v := .int 0) (ty := .int) (C := RX2) (T := TX2) (N := 11) hx hb hts inX2_deal_X2 tyX2 tyX2_ok nmX2 hown hK hP hD hS 0 rfl rfl 6 (by decide) (hts (.fieldLink RX2 33 "ArchivistTricks" "mover" "I") (by decide +kernel)) (fun _ h9 => h9) rfl (by decide +kernel) rfl rfl (Nat.le_of_ble_eq_true rfl) dX2_deal_74 (fun H locs hP hD hS => ?_)
    have hP : va_P D vwCl [(a0, .inr (2, [.ref aR, .ref aF, .ref aG, .int 12, .int (((j_X2_shuffle_vrow vrow x0) (12 : Int32).toNatClampNeg) / 10), .int (-1), .int 0, .int vw1, .int vw2, va_rf veo, .int veb])), (aF, .inr (0, [.long (j_X0_begin_vh (j_X2_handFrom (j_X2_putTurnedUpLast_vrow (j_X2_shuffle_vrow vrow x0)) 0)), .long j_X0_begin_vt, .int j_X0_begin_vp, .int j_X0_begin_vk, .int j_X0_begin_vg])), (aG, .inr (0, [.long (j_X0_begin_vh (j_X2_handFrom (j_X2_putTurnedUpLast_vrow (j_X2_shuffle_vrow vrow x0)) 6)), .long j_X0_begin_vt, .int j_X0_begin_vp, .int j_X0_begin_vk, .int j_X0_begin_vg])), (aR, .inl (cI, 42, .inl (j_X2_putTurnedUpLast_vrow (j_X2_shuffle_vrow vrow x0))))] H := hP
    have hD : va_D A [(a0, .inr (2, [.ref aR, .ref aF, .ref aG, .int 12, .int (((j_X2_shuffle_vrow vrow x0) (12 : Int32).toNatClampNeg) / 10), .int (-1), .int 0, .int vw1, .int vw2, va_rf veo, .int veb])), (aF, .inr (0, [.long (j_X0_begin_vh (j_X2_handFrom (j_X2_putTurnedUpLast_vrow (j_X2_shuffle_vrow vrow x0)) 0)), .long j_X0_begin_vt, .int j_X0_begin_vp, .int j_X0_begin_vk, .int j_X0_begin_vg])), (aG, .inr (0, [.long (j_X0_begin_vh (j_X2_handFrom (j_X2_putTurnedUpLast_vrow (j_X2_shuffle_vrow vrow x0)) 6)), .long j_X0_begin_vt, .int j_X0_begin_vp, .int j_X0_begin_vk, .int j_X0_begin_vg])), (aR, .inl (cI, 42, .inl (j_X2_putTurnedUpLast_vrow (j_X2_shuffle_vrow vrow x0))))] := hD
    refine lv_aload_n hx hb dX2_deal_77 rfl (lv_at hl 1 rfl) ?_
    refine lv_iconst (v := 0) hx hb dX2_deal_78 (by decide) ?_
    refine va_put (D := D) (ci := 2) (v := .int 0) (ty := .boolean) (C := RX2) (T := TX2) (N := 11) hx hb hts inX2_deal_X2 tyX2 tyX2_ok nmX2 hown hK hP hD hS 0 rfl rfl 10 (by decide) (hts (.fieldLink RX2 46 "ArchivistTricks" "endingBegun" "Z") (by decide +kernel)) (fun _ h9 => h9) rfl (by decide +kernel) rfl rfl (Nat.le_of_ble_eq_true rfl) dX2_deal_79 (fun H locs hP hD hS => ?_)
    have hP : va_P D vwCl [(a0, .inr (2, [.ref aR, .ref aF, .ref aG, .int 12, .int (((j_X2_shuffle_vrow vrow x0) (12 : Int32).toNatClampNeg) / 10), .int (-1), .int 0, .int vw1, .int vw2, va_rf veo, .int 0])), (aF, .inr (0, [.long (j_X0_begin_vh (j_X2_handFrom (j_X2_putTurnedUpLast_vrow (j_X2_shuffle_vrow vrow x0)) 0)), .long j_X0_begin_vt, .int j_X0_begin_vp, .int j_X0_begin_vk, .int j_X0_begin_vg])), (aG, .inr (0, [.long (j_X0_begin_vh (j_X2_handFrom (j_X2_putTurnedUpLast_vrow (j_X2_shuffle_vrow vrow x0)) 6)), .long j_X0_begin_vt, .int j_X0_begin_vp, .int j_X0_begin_vk, .int j_X0_begin_vg])), (aR, .inl (cI, 42, .inl (j_X2_putTurnedUpLast_vrow (j_X2_shuffle_vrow vrow x0))))] H := hP
    have hD : va_D A [(a0, .inr (2, [.ref aR, .ref aF, .ref aG, .int 12, .int (((j_X2_shuffle_vrow vrow x0) (12 : Int32).toNatClampNeg) / 10), .int (-1), .int 0, .int vw1, .int vw2, va_rf veo, .int 0])), (aF, .inr (0, [.long (j_X0_begin_vh (j_X2_handFrom (j_X2_putTurnedUpLast_vrow (j_X2_shuffle_vrow vrow x0)) 0)), .long j_X0_begin_vt, .int j_X0_begin_vp, .int j_X0_begin_vk, .int j_X0_begin_vg])), (aG, .inr (0, [.long (j_X0_begin_vh (j_X2_handFrom (j_X2_putTurnedUpLast_vrow (j_X2_shuffle_vrow vrow x0)) 6)), .long j_X0_begin_vt, .int j_X0_begin_vp, .int j_X0_begin_vk, .int j_X0_begin_vg])), (aR, .inl (cI, 42, .inl (j_X2_putTurnedUpLast_vrow (j_X2_shuffle_vrow vrow x0))))] := hD
    refine lv_aload_n hx hb dX2_deal_82 rfl (lv_at hl 1 rfl) ?_
    refine va_get (D := D) (ci := 2) (v := .int (((j_X2_shuffle_vrow vrow x0) (12 : Int32).toNatClampNeg) / 10)) (C := RX2) (T := TX2) (N := 11) hx hb hts inX2_deal_X2 hown hK hP 0 rfl rfl 4 (by decide) (hts (.fieldLink RX2 27 "ArchivistTricks" "trumpProvenance" "I") (by decide +kernel)) (fun _ h9 => h9) rfl dX2_deal_83 ?_
    exact jw_iret hx hb hr hlocks hK hP hD hS dX2_deal_86 (by  simp only [j_X2_deal, if_pos c_1]) (by  simp only [j_X2_deal_vrow, j_X2_deal_vdrawn, j_X2_deal_vtr, j_X2_deal_vled, j_X2_deal_vmov, j_X2_deal_veb, j_X2_deal_vh1, j_X2_deal_vt1, j_X2_deal_vp1, j_X2_deal_vk1, j_X2_deal_vg1, j_X2_deal_vh2, j_X2_deal_vt2, j_X2_deal_vp2, j_X2_deal_vk2, j_X2_deal_vg2, if_pos c_1])
  · skip
    refine lv_iconst (v := 0) hx hb dX2_deal_56 (by decide) ?_
    refine lv_goto (tgt := 64) hx hb dX2_deal_57 (by decide) ?_
    refine va_put (D := D) (ci := 2) (v := .int 0) (ty := .int) (C := RX2) (T := TX2) (N := 11) hx hb hts inX2_deal_X2 tyX2 tyX2_ok nmX2 hown hK hP hD hS 0 rfl rfl 4 (by decide) (hts (.fieldLink RX2 27 "ArchivistTricks" "trumpProvenance" "I") (by decide +kernel)) (fun _ h9 => h9) rfl (by decide +kernel) rfl rfl (Nat.le_of_ble_eq_true rfl) dX2_deal_64 (fun H locs hP hD hS => ?_)
    have hP : va_P D vwCl [(a0, .inr (2, [.ref aR, .ref aF, .ref aG, .int 12, .int 0, .int vled, .int vmov, .int vw1, .int vw2, va_rf veo, .int veb])), (aF, .inr (0, [.long (j_X0_begin_vh (j_X2_handFrom (j_X2_putTurnedUpLast_vrow (j_X2_shuffle_vrow vrow x0)) 0)), .long j_X0_begin_vt, .int j_X0_begin_vp, .int j_X0_begin_vk, .int j_X0_begin_vg])), (aG, .inr (0, [.long (j_X0_begin_vh (j_X2_handFrom (j_X2_putTurnedUpLast_vrow (j_X2_shuffle_vrow vrow x0)) 6)), .long j_X0_begin_vt, .int j_X0_begin_vp, .int j_X0_begin_vk, .int j_X0_begin_vg])), (aR, .inl (cI, 42, .inl (j_X2_putTurnedUpLast_vrow (j_X2_shuffle_vrow vrow x0))))] H := hP
    have hD : va_D A [(a0, .inr (2, [.ref aR, .ref aF, .ref aG, .int 12, .int 0, .int vled, .int vmov, .int vw1, .int vw2, va_rf veo, .int veb])), (aF, .inr (0, [.long (j_X0_begin_vh (j_X2_handFrom (j_X2_putTurnedUpLast_vrow (j_X2_shuffle_vrow vrow x0)) 0)), .long j_X0_begin_vt, .int j_X0_begin_vp, .int j_X0_begin_vk, .int j_X0_begin_vg])), (aG, .inr (0, [.long (j_X0_begin_vh (j_X2_handFrom (j_X2_putTurnedUpLast_vrow (j_X2_shuffle_vrow vrow x0)) 6)), .long j_X0_begin_vt, .int j_X0_begin_vp, .int j_X0_begin_vk, .int j_X0_begin_vg])), (aR, .inl (cI, 42, .inl (j_X2_putTurnedUpLast_vrow (j_X2_shuffle_vrow vrow x0))))] := hD
    refine lv_aload_n hx hb dX2_deal_67 rfl (lv_at hl 1 rfl) ?_
    refine lv_iconst (v := (-1)) hx hb dX2_deal_68 (by decide) ?_
    refine va_put (D := D) (ci := 2) (v := .int (-1)) (ty := .int) (C := RX2) (T := TX2) (N := 11) hx hb hts inX2_deal_X2 tyX2 tyX2_ok nmX2 hown hK hP hD hS 0 rfl rfl 5 (by decide) (hts (.fieldLink RX2 30 "ArchivistTricks" "ledCard" "I") (by decide +kernel)) (fun _ h9 => h9) rfl (by decide +kernel) rfl rfl (Nat.le_of_ble_eq_true rfl) dX2_deal_69 (fun H locs hP hD hS => ?_)
    have hP : va_P D vwCl [(a0, .inr (2, [.ref aR, .ref aF, .ref aG, .int 12, .int 0, .int (-1), .int vmov, .int vw1, .int vw2, va_rf veo, .int veb])), (aF, .inr (0, [.long (j_X0_begin_vh (j_X2_handFrom (j_X2_putTurnedUpLast_vrow (j_X2_shuffle_vrow vrow x0)) 0)), .long j_X0_begin_vt, .int j_X0_begin_vp, .int j_X0_begin_vk, .int j_X0_begin_vg])), (aG, .inr (0, [.long (j_X0_begin_vh (j_X2_handFrom (j_X2_putTurnedUpLast_vrow (j_X2_shuffle_vrow vrow x0)) 6)), .long j_X0_begin_vt, .int j_X0_begin_vp, .int j_X0_begin_vk, .int j_X0_begin_vg])), (aR, .inl (cI, 42, .inl (j_X2_putTurnedUpLast_vrow (j_X2_shuffle_vrow vrow x0))))] H := hP
    have hD : va_D A [(a0, .inr (2, [.ref aR, .ref aF, .ref aG, .int 12, .int 0, .int (-1), .int vmov, .int vw1, .int vw2, va_rf veo, .int veb])), (aF, .inr (0, [.long (j_X0_begin_vh (j_X2_handFrom (j_X2_putTurnedUpLast_vrow (j_X2_shuffle_vrow vrow x0)) 0)), .long j_X0_begin_vt, .int j_X0_begin_vp, .int j_X0_begin_vk, .int j_X0_begin_vg])), (aG, .inr (0, [.long (j_X0_begin_vh (j_X2_handFrom (j_X2_putTurnedUpLast_vrow (j_X2_shuffle_vrow vrow x0)) 6)), .long j_X0_begin_vt, .int j_X0_begin_vp, .int j_X0_begin_vk, .int j_X0_begin_vg])), (aR, .inl (cI, 42, .inl (j_X2_putTurnedUpLast_vrow (j_X2_shuffle_vrow vrow x0))))] := hD
    refine lv_aload_n hx hb dX2_deal_72 rfl (lv_at hl 1 rfl) ?_
    refine lv_iconst (v := 0) hx hb dX2_deal_73 (by decide) ?_
    refine va_put (D := D) (ci := 2) (v := .int 0) (ty := .int) (C := RX2) (T := TX2) (N := 11) hx hb hts inX2_deal_X2 tyX2 tyX2_ok nmX2 hown hK hP hD hS 0 rfl rfl 6 (by decide) (hts (.fieldLink RX2 33 "ArchivistTricks" "mover" "I") (by decide +kernel)) (fun _ h9 => h9) rfl (by decide +kernel) rfl rfl (Nat.le_of_ble_eq_true rfl) dX2_deal_74 (fun H locs hP hD hS => ?_)
    have hP : va_P D vwCl [(a0, .inr (2, [.ref aR, .ref aF, .ref aG, .int 12, .int 0, .int (-1), .int 0, .int vw1, .int vw2, va_rf veo, .int veb])), (aF, .inr (0, [.long (j_X0_begin_vh (j_X2_handFrom (j_X2_putTurnedUpLast_vrow (j_X2_shuffle_vrow vrow x0)) 0)), .long j_X0_begin_vt, .int j_X0_begin_vp, .int j_X0_begin_vk, .int j_X0_begin_vg])), (aG, .inr (0, [.long (j_X0_begin_vh (j_X2_handFrom (j_X2_putTurnedUpLast_vrow (j_X2_shuffle_vrow vrow x0)) 6)), .long j_X0_begin_vt, .int j_X0_begin_vp, .int j_X0_begin_vk, .int j_X0_begin_vg])), (aR, .inl (cI, 42, .inl (j_X2_putTurnedUpLast_vrow (j_X2_shuffle_vrow vrow x0))))] H := hP
    have hD : va_D A [(a0, .inr (2, [.ref aR, .ref aF, .ref aG, .int 12, .int 0, .int (-1), .int 0, .int vw1, .int vw2, va_rf veo, .int veb])), (aF, .inr (0, [.long (j_X0_begin_vh (j_X2_handFrom (j_X2_putTurnedUpLast_vrow (j_X2_shuffle_vrow vrow x0)) 0)), .long j_X0_begin_vt, .int j_X0_begin_vp, .int j_X0_begin_vk, .int j_X0_begin_vg])), (aG, .inr (0, [.long (j_X0_begin_vh (j_X2_handFrom (j_X2_putTurnedUpLast_vrow (j_X2_shuffle_vrow vrow x0)) 6)), .long j_X0_begin_vt, .int j_X0_begin_vp, .int j_X0_begin_vk, .int j_X0_begin_vg])), (aR, .inl (cI, 42, .inl (j_X2_putTurnedUpLast_vrow (j_X2_shuffle_vrow vrow x0))))] := hD
    refine lv_aload_n hx hb dX2_deal_77 rfl (lv_at hl 1 rfl) ?_
    refine lv_iconst (v := 0) hx hb dX2_deal_78 (by decide) ?_
    refine va_put (D := D) (ci := 2) (v := .int 0) (ty := .boolean) (C := RX2) (T := TX2) (N := 11) hx hb hts inX2_deal_X2 tyX2 tyX2_ok nmX2 hown hK hP hD hS 0 rfl rfl 10 (by decide) (hts (.fieldLink RX2 46 "ArchivistTricks" "endingBegun" "Z") (by decide +kernel)) (fun _ h9 => h9) rfl (by decide +kernel) rfl rfl (Nat.le_of_ble_eq_true rfl) dX2_deal_79 (fun H locs hP hD hS => ?_)
    have hP : va_P D vwCl [(a0, .inr (2, [.ref aR, .ref aF, .ref aG, .int 12, .int 0, .int (-1), .int 0, .int vw1, .int vw2, va_rf veo, .int 0])), (aF, .inr (0, [.long (j_X0_begin_vh (j_X2_handFrom (j_X2_putTurnedUpLast_vrow (j_X2_shuffle_vrow vrow x0)) 0)), .long j_X0_begin_vt, .int j_X0_begin_vp, .int j_X0_begin_vk, .int j_X0_begin_vg])), (aG, .inr (0, [.long (j_X0_begin_vh (j_X2_handFrom (j_X2_putTurnedUpLast_vrow (j_X2_shuffle_vrow vrow x0)) 6)), .long j_X0_begin_vt, .int j_X0_begin_vp, .int j_X0_begin_vk, .int j_X0_begin_vg])), (aR, .inl (cI, 42, .inl (j_X2_putTurnedUpLast_vrow (j_X2_shuffle_vrow vrow x0))))] H := hP
    have hD : va_D A [(a0, .inr (2, [.ref aR, .ref aF, .ref aG, .int 12, .int 0, .int (-1), .int 0, .int vw1, .int vw2, va_rf veo, .int 0])), (aF, .inr (0, [.long (j_X0_begin_vh (j_X2_handFrom (j_X2_putTurnedUpLast_vrow (j_X2_shuffle_vrow vrow x0)) 0)), .long j_X0_begin_vt, .int j_X0_begin_vp, .int j_X0_begin_vk, .int j_X0_begin_vg])), (aG, .inr (0, [.long (j_X0_begin_vh (j_X2_handFrom (j_X2_putTurnedUpLast_vrow (j_X2_shuffle_vrow vrow x0)) 6)), .long j_X0_begin_vt, .int j_X0_begin_vp, .int j_X0_begin_vk, .int j_X0_begin_vg])), (aR, .inl (cI, 42, .inl (j_X2_putTurnedUpLast_vrow (j_X2_shuffle_vrow vrow x0))))] := hD
    refine lv_aload_n hx hb dX2_deal_82 rfl (lv_at hl 1 rfl) ?_
    refine va_get (D := D) (ci := 2) (v := .int 0) (C := RX2) (T := TX2) (N := 11) hx hb hts inX2_deal_X2 hown hK hP 0 rfl rfl 4 (by decide) (hts (.fieldLink RX2 27 "ArchivistTricks" "trumpProvenance" "I") (by decide +kernel)) (fun _ h9 => h9) rfl dX2_deal_83 ?_
    exact jw_iret hx hb hr hlocks hK hP hD hS dX2_deal_86 (by  simp only [j_X2_deal, if_neg c_1]) (by  simp only [j_X2_deal_vrow, j_X2_deal_vdrawn, j_X2_deal_vtr, j_X2_deal_vled, j_X2_deal_vmov, j_X2_deal_veb, j_X2_deal_vh1, j_X2_deal_vt1, j_X2_deal_vp1, j_X2_deal_vk1, j_X2_deal_vg1, j_X2_deal_vh2, j_X2_deal_vt2, j_X2_deal_vp2, j_X2_deal_vk2, j_X2_deal_vg2, if_neg c_1])
end
section
/-! THE CLASS: its face, where it does not throw (laid by wip/p24/rows.py) -/
abbrev rX2_whyNot : Room := { frames := 3, cells := 0, slots := 0, locals := 73 }
def j_X2_whyNot (vdrawn : Int32) (vtr : Int32) (vled : Int32) (vmov : Int32) (vh1 : Int64) (vh2 : Int64) (x0 : Int32) : Int32 := j_X2_reasonAgainst vdrawn vtr vled vmov vh1 vh2 x0
set_option maxRecDepth 100000 in
set_option maxHeartbeats 4000000 in
theorem c_X2_whyNot {l : Launch} {D : va_G} (a0 : Nat) (aR : Nat) (aF : Nat) (aG : Nat) (cI : ClassId) (vrow : Nat → Int32) (vdrawn : Int32) (vtr : Int32) (vled : Int32) (vmov : Int32) (vw1 : Int32) (vw2 : Int32) (veo : Option Nat) (veb : Int32) (vh1 : Int64) (vt1 : Int64) (vp1 : Int32) (vk1 : Int32) (vg1 : Int32) (vh2 : Int64) (vt2 : Int64) (vp2 : Int32) (vk2 : Int32) (vg2 : Int32) (x0 : Int32) (h0 : ¬ (j_X2_isCard x0 = 0)) : jR l yX2_whyNot wsX2_whyNot rX2_whyNot D [.ref a0, .int x0] (jC a0 aR aF aG cI vrow vdrawn vtr vled vmov vw1 vw2 veo veb vh1 vt1 vp1 vk1 vg1 vh2 vt2 vp2 vk2 vg2) [(cI, .int)] (.int (j_X2_whyNot vdrawn vtr vled vmov vh1 vh2 x0)) := by
  refine jR_of (cc := cX2_whyNot) (maxL := 2) (ret := (some .int)) (by decide) rfl (Nat.le_of_ble_eq_true rfl) ?_
  intro p e s m below meth c ls S hr hlocks hP hK hN hl
  obtain ⟨hx, hb, hml, hown, hts⟩ := id S
  have hl : lv_has ls 2 [(0, .ref a0), (1, .int x0)] := hl
  refine lv_iload_n hx hb dX2_whyNot_0 rfl (lv_at hl 1 rfl) ?_
  refine jr_callS (n := 1) (As := [.int x0]) (rest := []) S (c_X2_isCard x0) gX2_whyNot_X2_isCard rfl (by decide +kernel) rfl ⟨⟨rfl, rfl⟩, ⟨Nat.le_of_ble_eq_true rfl, Nat.le_of_ble_eq_true rfl⟩, Nat.le_of_ble_eq_true rfl, Nat.le_of_ble_eq_true rfl⟩ hP hK hN [] [] rfl rfl (lv_nil hl) rfl (Nat.le_of_ble_eq_true rfl) dX2_whyNot_1 ?_
  refine lv_if_ne (tgt := 17) hx hb dX2_whyNot_4 (by decide) (fun _ => ?_) (fun c_ => absurd c_ h0)
  refine lv_aload_n hx hb dX2_whyNot_17 rfl (lv_at hl 0 rfl) ?_
  refine lv_iload_n hx hb dX2_whyNot_18 rfl (lv_at hl 1 rfl) ?_
  refine jr_callV (n := 1) (C := RX2) (As := [.int x0]) (rest := []) S (c_X2_reasonAgainst a0 aR aF aG cI vrow vdrawn vtr vled vmov vw1 vw2 veo veb vh1 vt1 vp1 vk1 vg1 vh2 vt2 vp2 vk2 vg2 x0) gX2_whyNot_X2_reasonAgainst rfl (by decide +kernel) rfl ⟨⟨rfl, rfl⟩, ⟨Nat.le_of_ble_eq_true rfl, Nat.le_of_ble_eq_true rfl⟩, Nat.le_of_ble_eq_true rfl, Nat.le_of_ble_eq_true rfl⟩ hP hK hN [0, 1, 2, 3] [0] rfl rfl 0 2 rfl rfl rfl (lv_nil hl) rfl (Nat.le_of_ble_eq_true rfl) dX2_whyNot_19 ?_
  exact jr_iret hx hb hr hlocks dX2_whyNot_22 (by simp only [j_X2_whyNot, if_neg h0])

abbrev rX2_cards : Room := { frames := 1, cells := 0, slots := 0, locals := 21 }
def j_X2_cards (vh1 : Int64) (vh2 : Int64) (x0 : Int32) : Int32 := (if x0 = 0 then j_J13_bitCount_95d88 vh1 else j_J13_bitCount_95d88 vh2)
theorem inX2_cards_X0 : ∀ w ∈ u_ws RX0 TX0 5, w ∈ wsX2_cards := by decide +kernel
set_option maxRecDepth 100000 in
set_option maxHeartbeats 4000000 in
theorem c_X2_cards {l : Launch} {D : va_G} (a0 : Nat) (aR : Nat) (aF : Nat) (aG : Nat) (cI : ClassId) (vrow : Nat → Int32) (vdrawn : Int32) (vtr : Int32) (vled : Int32) (vmov : Int32) (vw1 : Int32) (vw2 : Int32) (veo : Option Nat) (veb : Int32) (vh1 : Int64) (vt1 : Int64) (vp1 : Int32) (vk1 : Int32) (vg1 : Int32) (vh2 : Int64) (vt2 : Int64) (vp2 : Int32) (vk2 : Int32) (vg2 : Int32) (x0 : Int32) (h0 : ¬ (j_X2_isArchivist x0 = 0)) : jR l yX2_cards wsX2_cards rX2_cards D [.ref a0, .int x0] (jC a0 aR aF aG cI vrow vdrawn vtr vled vmov vw1 vw2 veo veb vh1 vt1 vp1 vk1 vg1 vh2 vt2 vp2 vk2 vg2) [(cI, .int)] (.int (j_X2_cards vh1 vh2 x0)) := by
  refine jR_of (cc := cX2_cards) (maxL := 2) (ret := (some .int)) (by decide) rfl (Nat.le_of_ble_eq_true rfl) ?_
  intro p e s m below meth c ls S hr hlocks hP hK hN hl
  obtain ⟨hx, hb, hml, hown, hts⟩ := id S
  have hl : lv_has ls 2 [(0, .ref a0), (1, .int x0)] := hl
  refine lv_iload_n hx hb dX2_cards_0 rfl (lv_at hl 1 rfl) ?_
  refine jr_callS (n := 1) (As := [.int x0]) (rest := []) S (c_X2_isArchivist x0) gX2_cards_X2_isArchivist rfl (by decide +kernel) rfl ⟨⟨rfl, rfl⟩, ⟨Nat.le_of_ble_eq_true rfl, Nat.le_of_ble_eq_true rfl⟩, Nat.le_of_ble_eq_true rfl, Nat.le_of_ble_eq_true rfl⟩ hP hK hN [] [] rfl rfl (lv_nil hl) rfl (Nat.le_of_ble_eq_true rfl) dX2_cards_1 ?_
  refine lv_if_ne (tgt := 17) hx hb dX2_cards_4 (by decide) (fun _ => ?_) (fun c_ => absurd c_ h0)
  refine lv_aload_n hx hb dX2_cards_17 rfl (lv_at hl 0 rfl) ?_
  refine lv_iload_n hx hb dX2_cards_18 rfl (lv_at hl 1 rfl) ?_
  refine jr_callV (n := 1) (C := RX2) (As := [.int x0]) (rest := []) S (c_X2_archivist a0 aR aF aG cI vrow vdrawn vtr vled vmov vw1 vw2 veo veb vh1 vt1 vp1 vk1 vg1 vh2 vt2 vp2 vk2 vg2 x0) gX2_cards_X2_archivist rfl (by decide +kernel) rfl ⟨⟨rfl, rfl⟩, ⟨Nat.le_of_ble_eq_true rfl, Nat.le_of_ble_eq_true rfl⟩, Nat.le_of_ble_eq_true rfl, Nat.le_of_ble_eq_true rfl⟩ hP hK hN [0, 1, 2, 3] [0] rfl rfl 0 2 rfl rfl rfl (lv_nil hl) rfl (Nat.le_of_ble_eq_true rfl) dX2_cards_19 ?_
  refine jr_ite (c0 := x0 = 0) (a := aF) (b := aG) rfl (fun c_1 => ?_) (fun c_1 => ?_)
  · skip
    refine va_get (D := D) (ci := 0) (v := .long vh1) (C := RX0) (T := TX0) (N := 5) hx hb hts inX2_cards_X0 hown hK hP 1 rfl rfl 0 (by decide) (hts (.fieldLink RX2 91 "ArchivistTricks$Archivist" "hand" "J") (by decide +kernel)) (fun _ h9 => h9) rfl dX2_cards_22 ?_
    refine jr_callS (n := 1) (As := [.long vh1]) (rest := []) S (c_J13_bitCount_95d88 vh1) gX2_cards_J13_bitCount_95d88 rfl (by decide +kernel) rfl ⟨⟨rfl, rfl⟩, ⟨Nat.le_of_ble_eq_true rfl, Nat.le_of_ble_eq_true rfl⟩, Nat.le_of_ble_eq_true rfl, Nat.le_of_ble_eq_true rfl⟩ hP hK hN [] [] rfl rfl (lv_nil hl) rfl (Nat.le_of_ble_eq_true rfl) dX2_cards_25 ?_
    exact jr_iret hx hb hr hlocks dX2_cards_28 (by simp only [j_X2_cards, if_neg h0, if_pos c_1])
  · skip
    refine va_get (D := D) (ci := 0) (v := .long vh2) (C := RX0) (T := TX0) (N := 5) hx hb hts inX2_cards_X0 hown hK hP 2 rfl rfl 0 (by decide) (hts (.fieldLink RX2 91 "ArchivistTricks$Archivist" "hand" "J") (by decide +kernel)) (fun _ h9 => h9) rfl dX2_cards_22 ?_
    refine jr_callS (n := 1) (As := [.long vh2]) (rest := []) S (c_J13_bitCount_95d88 vh2) gX2_cards_J13_bitCount_95d88 rfl (by decide +kernel) rfl ⟨⟨rfl, rfl⟩, ⟨Nat.le_of_ble_eq_true rfl, Nat.le_of_ble_eq_true rfl⟩, Nat.le_of_ble_eq_true rfl, Nat.le_of_ble_eq_true rfl⟩ hP hK hN [] [] rfl rfl (lv_nil hl) rfl (Nat.le_of_ble_eq_true rfl) dX2_cards_25 ?_
    exact jr_iret hx hb hr hlocks dX2_cards_28 (by simp only [j_X2_cards, if_neg h0, if_neg c_1])

abbrev rX2_placeOf : Room := { frames := 1, cells := 0, slots := 0, locals := 22 }
def j_X2_placeOf (vtr : Int32) (vled : Int32) (vh1 : Int64) (vt1 : Int64) (vh2 : Int64) (vt2 : Int64) (x0 : Int32) : Int32 := (if vtr = (-1) then (-1) else (if j_X2_has vh1 x0 = 0 then (if j_X2_has vh2 x0 = 0 then (if j_X2_has vt1 x0 = 0 then (if j_X2_has vt2 x0 = 0 then (if x0 = vled then 3 else 2) else 5) else 4) else 1) else 0))
theorem inX2_placeOf_X0 : ∀ w ∈ u_ws RX0 TX0 5, w ∈ wsX2_placeOf := by decide +kernel
theorem inX2_placeOf_X2 : ∀ w ∈ u_ws RX2 TX2 11, w ∈ wsX2_placeOf := by decide +kernel
set_option maxRecDepth 100000 in
set_option maxHeartbeats 4000000 in
theorem c_X2_placeOf {l : Launch} {D : va_G} (a0 : Nat) (aR : Nat) (aF : Nat) (aG : Nat) (cI : ClassId) (vrow : Nat → Int32) (vdrawn : Int32) (vtr : Int32) (vled : Int32) (vmov : Int32) (vw1 : Int32) (vw2 : Int32) (veo : Option Nat) (veb : Int32) (vh1 : Int64) (vt1 : Int64) (vp1 : Int32) (vk1 : Int32) (vg1 : Int32) (vh2 : Int64) (vt2 : Int64) (vp2 : Int32) (vk2 : Int32) (vg2 : Int32) (x0 : Int32) (h0 : ¬ (j_X2_isCard x0 = 0)) : jR l yX2_placeOf wsX2_placeOf rX2_placeOf D [.ref a0, .int x0] (jC a0 aR aF aG cI vrow vdrawn vtr vled vmov vw1 vw2 veo veb vh1 vt1 vp1 vk1 vg1 vh2 vt2 vp2 vk2 vg2) [(cI, .int)] (.int (j_X2_placeOf vtr vled vh1 vt1 vh2 vt2 x0)) := by
  refine jR_of (cc := cX2_placeOf) (maxL := 2) (ret := (some .int)) (by decide) rfl (Nat.le_of_ble_eq_true rfl) ?_
  intro p e s m below meth c ls S hr hlocks hP hK hN hl
  obtain ⟨hx, hb, hml, hown, hts⟩ := id S
  have hl : lv_has ls 2 [(0, .ref a0), (1, .int x0)] := hl
  refine lv_iload_n hx hb dX2_placeOf_0 rfl (lv_at hl 1 rfl) ?_
  refine jr_callS (n := 1) (As := [.int x0]) (rest := []) S (c_X2_isCard x0) gX2_placeOf_X2_isCard rfl (by decide +kernel) rfl ⟨⟨rfl, rfl⟩, ⟨Nat.le_of_ble_eq_true rfl, Nat.le_of_ble_eq_true rfl⟩, Nat.le_of_ble_eq_true rfl, Nat.le_of_ble_eq_true rfl⟩ hP hK hN [] [] rfl rfl (lv_nil hl) rfl (Nat.le_of_ble_eq_true rfl) dX2_placeOf_1 ?_
  refine lv_if_ne (tgt := 17) hx hb dX2_placeOf_4 (by decide) (fun _ => ?_) (fun c_ => absurd c_ h0)
  refine lv_aload_n hx hb dX2_placeOf_17 rfl (lv_at hl 0 rfl) ?_
  refine va_get (D := D) (ci := 2) (v := .int vtr) (C := RX2) (T := TX2) (N := 11) hx hb hts inX2_placeOf_X2 hown hK hP 0 rfl rfl 4 (by decide) (hts (.fieldLink RX2 27 "ArchivistTricks" "trumpProvenance" "I") (by decide +kernel)) (fun _ h9 => h9) rfl dX2_placeOf_18 ?_
  refine lv_iconst (v := (-1)) hx hb dX2_placeOf_21 (by decide) ?_
  refine lv_icmp_ne (tgt := 27) hx hb dX2_placeOf_22 (by decide) (fun c_1 => ?_) (fun c_1 => ?_)
  · skip
    refine lv_aload_n hx hb dX2_placeOf_27 rfl (lv_at hl 0 rfl) ?_
    refine va_get (D := D) (ci := 2) (v := .ref aF) (C := RX2) (T := TX2) (N := 11) hx hb hts inX2_placeOf_X2 hown hK hP 0 rfl rfl 1 (by decide) (hts (.fieldLink RX2 16 "ArchivistTricks" "first" "LArchivistTricks$Archivist;") (by decide +kernel)) (fun _ h9 => h9) rfl dX2_placeOf_28 ?_
    refine va_get (D := D) (ci := 0) (v := .long vh1) (C := RX0) (T := TX0) (N := 5) hx hb hts inX2_placeOf_X0 hown hK hP 1 rfl rfl 0 (by decide) (hts (.fieldLink RX2 91 "ArchivistTricks$Archivist" "hand" "J") (by decide +kernel)) (fun _ h9 => h9) rfl dX2_placeOf_31 ?_
    refine lv_iload_n hx hb dX2_placeOf_34 rfl (lv_at hl 1 rfl) ?_
    refine jr_callS (n := 2) (As := [.long vh1, .int x0]) (rest := []) S (c_X2_has vh1 x0) gX2_placeOf_X2_has rfl (by decide +kernel) rfl ⟨⟨rfl, rfl⟩, ⟨Nat.le_of_ble_eq_true rfl, Nat.le_of_ble_eq_true rfl⟩, Nat.le_of_ble_eq_true rfl, Nat.le_of_ble_eq_true rfl⟩ hP hK hN [] [] rfl rfl (lv_nil hl) rfl (Nat.le_of_ble_eq_true rfl) dX2_placeOf_35 ?_
    refine lv_if_eq (tgt := 43) hx hb dX2_placeOf_38 (by decide) (fun c_2 => ?_) (fun c_2 => ?_)
    · skip
      refine lv_aload_n hx hb dX2_placeOf_43 rfl (lv_at hl 0 rfl) ?_
      refine va_get (D := D) (ci := 2) (v := .ref aG) (C := RX2) (T := TX2) (N := 11) hx hb hts inX2_placeOf_X2 hown hK hP 0 rfl rfl 2 (by decide) (hts (.fieldLink RX2 20 "ArchivistTricks" "second" "LArchivistTricks$Archivist;") (by decide +kernel)) (fun _ h9 => h9) rfl dX2_placeOf_44 ?_
      refine va_get (D := D) (ci := 0) (v := .long vh2) (C := RX0) (T := TX0) (N := 5) hx hb hts inX2_placeOf_X0 hown hK hP 2 rfl rfl 0 (by decide) (hts (.fieldLink RX2 91 "ArchivistTricks$Archivist" "hand" "J") (by decide +kernel)) (fun _ h9 => h9) rfl dX2_placeOf_47 ?_
      refine lv_iload_n hx hb dX2_placeOf_50 rfl (lv_at hl 1 rfl) ?_
      refine jr_callS (n := 2) (As := [.long vh2, .int x0]) (rest := []) S (c_X2_has vh2 x0) gX2_placeOf_X2_has rfl (by decide +kernel) rfl ⟨⟨rfl, rfl⟩, ⟨Nat.le_of_ble_eq_true rfl, Nat.le_of_ble_eq_true rfl⟩, Nat.le_of_ble_eq_true rfl, Nat.le_of_ble_eq_true rfl⟩ hP hK hN [] [] rfl rfl (lv_nil hl) rfl (Nat.le_of_ble_eq_true rfl) dX2_placeOf_51 ?_
      refine lv_if_eq (tgt := 59) hx hb dX2_placeOf_54 (by decide) (fun c_3 => ?_) (fun c_3 => ?_)
      · skip
        refine lv_aload_n hx hb dX2_placeOf_59 rfl (lv_at hl 0 rfl) ?_
        refine va_get (D := D) (ci := 2) (v := .ref aF) (C := RX2) (T := TX2) (N := 11) hx hb hts inX2_placeOf_X2 hown hK hP 0 rfl rfl 1 (by decide) (hts (.fieldLink RX2 16 "ArchivistTricks" "first" "LArchivistTricks$Archivist;") (by decide +kernel)) (fun _ h9 => h9) rfl dX2_placeOf_60 ?_
        refine va_get (D := D) (ci := 0) (v := .long vt1) (C := RX0) (T := TX0) (N := 5) hx hb hts inX2_placeOf_X0 hown hK hP 1 rfl rfl 1 (by decide) (hts (.fieldLink RX2 130 "ArchivistTricks$Archivist" "taken" "J") (by decide +kernel)) (fun _ h9 => h9) rfl dX2_placeOf_63 ?_
        refine lv_iload_n hx hb dX2_placeOf_66 rfl (lv_at hl 1 rfl) ?_
        refine jr_callS (n := 2) (As := [.long vt1, .int x0]) (rest := []) S (c_X2_has vt1 x0) gX2_placeOf_X2_has rfl (by decide +kernel) rfl ⟨⟨rfl, rfl⟩, ⟨Nat.le_of_ble_eq_true rfl, Nat.le_of_ble_eq_true rfl⟩, Nat.le_of_ble_eq_true rfl, Nat.le_of_ble_eq_true rfl⟩ hP hK hN [] [] rfl rfl (lv_nil hl) rfl (Nat.le_of_ble_eq_true rfl) dX2_placeOf_67 ?_
        refine lv_if_eq (tgt := 75) hx hb dX2_placeOf_70 (by decide) (fun c_4 => ?_) (fun c_4 => ?_)
        · skip
          refine lv_aload_n hx hb dX2_placeOf_75 rfl (lv_at hl 0 rfl) ?_
          refine va_get (D := D) (ci := 2) (v := .ref aG) (C := RX2) (T := TX2) (N := 11) hx hb hts inX2_placeOf_X2 hown hK hP 0 rfl rfl 2 (by decide) (hts (.fieldLink RX2 20 "ArchivistTricks" "second" "LArchivistTricks$Archivist;") (by decide +kernel)) (fun _ h9 => h9) rfl dX2_placeOf_76 ?_
          refine va_get (D := D) (ci := 0) (v := .long vt2) (C := RX0) (T := TX0) (N := 5) hx hb hts inX2_placeOf_X0 hown hK hP 2 rfl rfl 1 (by decide) (hts (.fieldLink RX2 130 "ArchivistTricks$Archivist" "taken" "J") (by decide +kernel)) (fun _ h9 => h9) rfl dX2_placeOf_79 ?_
          refine lv_iload_n hx hb dX2_placeOf_82 rfl (lv_at hl 1 rfl) ?_
          refine jr_callS (n := 2) (As := [.long vt2, .int x0]) (rest := []) S (c_X2_has vt2 x0) gX2_placeOf_X2_has rfl (by decide +kernel) rfl ⟨⟨rfl, rfl⟩, ⟨Nat.le_of_ble_eq_true rfl, Nat.le_of_ble_eq_true rfl⟩, Nat.le_of_ble_eq_true rfl, Nat.le_of_ble_eq_true rfl⟩ hP hK hN [] [] rfl rfl (lv_nil hl) rfl (Nat.le_of_ble_eq_true rfl) dX2_placeOf_83 ?_
          refine lv_if_eq (tgt := 91) hx hb dX2_placeOf_86 (by decide) (fun c_5 => ?_) (fun c_5 => ?_)
          · skip
            refine lv_iload_n hx hb dX2_placeOf_91 rfl (lv_at hl 1 rfl) ?_
            refine lv_aload_n hx hb dX2_placeOf_92 rfl (lv_at hl 0 rfl) ?_
            refine va_get (D := D) (ci := 2) (v := .int vled) (C := RX2) (T := TX2) (N := 11) hx hb hts inX2_placeOf_X2 hown hK hP 0 rfl rfl 5 (by decide) (hts (.fieldLink RX2 30 "ArchivistTricks" "ledCard" "I") (by decide +kernel)) (fun _ h9 => h9) rfl dX2_placeOf_93 ?_
            refine lv_icmp_ne (tgt := 103) hx hb dX2_placeOf_96 (by decide) (fun c_6 => ?_) (fun c_6 => ?_)
            · skip
              refine lv_iconst (v := 2) hx hb dX2_placeOf_103 (by decide) ?_
              exact jr_iret hx hb hr hlocks dX2_placeOf_104 (by simp only [j_X2_placeOf, if_neg h0, if_neg c_1, if_pos c_2, if_pos c_3, if_pos c_4, if_pos c_5, if_neg c_6])
            · skip
              refine lv_iconst (v := 3) hx hb dX2_placeOf_99 (by decide) ?_
              refine lv_goto (tgt := 104) hx hb dX2_placeOf_100 (by decide) ?_
              exact jr_iret hx hb hr hlocks dX2_placeOf_104 (by simp only [j_X2_placeOf, if_neg h0, if_neg c_1, if_pos c_2, if_pos c_3, if_pos c_4, if_pos c_5, if_pos c_6])
          · skip
            refine lv_iconst (v := 5) hx hb dX2_placeOf_89 (by decide) ?_
            exact jr_iret hx hb hr hlocks dX2_placeOf_90 (by simp only [j_X2_placeOf, if_neg h0, if_neg c_1, if_pos c_2, if_pos c_3, if_pos c_4, if_neg c_5])
        · skip
          refine lv_iconst (v := 4) hx hb dX2_placeOf_73 (by decide) ?_
          exact jr_iret hx hb hr hlocks dX2_placeOf_74 (by simp only [j_X2_placeOf, if_neg h0, if_neg c_1, if_pos c_2, if_pos c_3, if_neg c_4])
      · skip
        refine lv_iconst (v := 1) hx hb dX2_placeOf_57 (by decide) ?_
        exact jr_iret hx hb hr hlocks dX2_placeOf_58 (by simp only [j_X2_placeOf, if_neg h0, if_neg c_1, if_pos c_2, if_neg c_3])
    · skip
      refine lv_iconst (v := 0) hx hb dX2_placeOf_41 (by decide) ?_
      exact jr_iret hx hb hr hlocks dX2_placeOf_42 (by simp only [j_X2_placeOf, if_neg h0, if_neg c_1, if_neg c_2])
  · skip
    refine lv_iconst (v := (-1)) hx hb dX2_placeOf_25 (by decide) ?_
    exact jr_iret hx hb hr hlocks dX2_placeOf_26 (by simp only [j_X2_placeOf, if_neg h0, if_pos c_1])

abbrev rX2_points : Room := { frames := 1, cells := 0, slots := 0, locals := 21 }
def j_X2_points (vp1 : Int32) (vp2 : Int32) (x0 : Int32) : Int32 := (if x0 = 0 then vp1 else vp2)
theorem inX2_points_X0 : ∀ w ∈ u_ws RX0 TX0 5, w ∈ wsX2_points := by decide +kernel
set_option maxRecDepth 100000 in
set_option maxHeartbeats 4000000 in
theorem c_X2_points {l : Launch} {D : va_G} (a0 : Nat) (aR : Nat) (aF : Nat) (aG : Nat) (cI : ClassId) (vrow : Nat → Int32) (vdrawn : Int32) (vtr : Int32) (vled : Int32) (vmov : Int32) (vw1 : Int32) (vw2 : Int32) (veo : Option Nat) (veb : Int32) (vh1 : Int64) (vt1 : Int64) (vp1 : Int32) (vk1 : Int32) (vg1 : Int32) (vh2 : Int64) (vt2 : Int64) (vp2 : Int32) (vk2 : Int32) (vg2 : Int32) (x0 : Int32) (h0 : ¬ (j_X2_isArchivist x0 = 0)) : jR l yX2_points wsX2_points rX2_points D [.ref a0, .int x0] (jC a0 aR aF aG cI vrow vdrawn vtr vled vmov vw1 vw2 veo veb vh1 vt1 vp1 vk1 vg1 vh2 vt2 vp2 vk2 vg2) [(cI, .int)] (.int (j_X2_points vp1 vp2 x0)) := by
  refine jR_of (cc := cX2_points) (maxL := 2) (ret := (some .int)) (by decide) rfl (Nat.le_of_ble_eq_true rfl) ?_
  intro p e s m below meth c ls S hr hlocks hP hK hN hl
  obtain ⟨hx, hb, hml, hown, hts⟩ := id S
  have hl : lv_has ls 2 [(0, .ref a0), (1, .int x0)] := hl
  refine lv_iload_n hx hb dX2_points_0 rfl (lv_at hl 1 rfl) ?_
  refine jr_callS (n := 1) (As := [.int x0]) (rest := []) S (c_X2_isArchivist x0) gX2_points_X2_isArchivist rfl (by decide +kernel) rfl ⟨⟨rfl, rfl⟩, ⟨Nat.le_of_ble_eq_true rfl, Nat.le_of_ble_eq_true rfl⟩, Nat.le_of_ble_eq_true rfl, Nat.le_of_ble_eq_true rfl⟩ hP hK hN [] [] rfl rfl (lv_nil hl) rfl (Nat.le_of_ble_eq_true rfl) dX2_points_1 ?_
  refine lv_if_ne (tgt := 17) hx hb dX2_points_4 (by decide) (fun _ => ?_) (fun c_ => absurd c_ h0)
  refine lv_aload_n hx hb dX2_points_17 rfl (lv_at hl 0 rfl) ?_
  refine lv_iload_n hx hb dX2_points_18 rfl (lv_at hl 1 rfl) ?_
  refine jr_callV (n := 1) (C := RX2) (As := [.int x0]) (rest := []) S (c_X2_archivist a0 aR aF aG cI vrow vdrawn vtr vled vmov vw1 vw2 veo veb vh1 vt1 vp1 vk1 vg1 vh2 vt2 vp2 vk2 vg2 x0) gX2_points_X2_archivist rfl (by decide +kernel) rfl ⟨⟨rfl, rfl⟩, ⟨Nat.le_of_ble_eq_true rfl, Nat.le_of_ble_eq_true rfl⟩, Nat.le_of_ble_eq_true rfl, Nat.le_of_ble_eq_true rfl⟩ hP hK hN [0, 1, 2, 3] [0] rfl rfl 0 2 rfl rfl rfl (lv_nil hl) rfl (Nat.le_of_ble_eq_true rfl) dX2_points_19 ?_
  refine jr_ite (c0 := x0 = 0) (a := aF) (b := aG) rfl (fun c_1 => ?_) (fun c_1 => ?_)
  · skip
    refine va_get (D := D) (ci := 0) (v := .int vp1) (C := RX0) (T := TX0) (N := 5) hx hb hts inX2_points_X0 hown hK hP 1 rfl rfl 2 (by decide) (hts (.fieldLink RX2 133 "ArchivistTricks$Archivist" "points" "I") (by decide +kernel)) (fun _ h9 => h9) rfl dX2_points_22 ?_
    exact jr_iret hx hb hr hlocks dX2_points_25 (by simp only [j_X2_points, if_neg h0, if_pos c_1])
  · skip
    refine va_get (D := D) (ci := 0) (v := .int vp2) (C := RX0) (T := TX0) (N := 5) hx hb hts inX2_points_X0 hown hK hP 2 rfl rfl 2 (by decide) (hts (.fieldLink RX2 133 "ArchivistTricks$Archivist" "points" "I") (by decide +kernel)) (fun _ h9 => h9) rfl dX2_points_22 ?_
    exact jr_iret hx hb hr hlocks dX2_points_25 (by simp only [j_X2_points, if_neg h0, if_neg c_1])

abbrev rX2_tricks : Room := { frames := 1, cells := 0, slots := 0, locals := 21 }
def j_X2_tricks (vk1 : Int32) (vk2 : Int32) (x0 : Int32) : Int32 := (if x0 = 0 then vk1 else vk2)
theorem inX2_tricks_X0 : ∀ w ∈ u_ws RX0 TX0 5, w ∈ wsX2_tricks := by decide +kernel
set_option maxRecDepth 100000 in
set_option maxHeartbeats 4000000 in
theorem c_X2_tricks {l : Launch} {D : va_G} (a0 : Nat) (aR : Nat) (aF : Nat) (aG : Nat) (cI : ClassId) (vrow : Nat → Int32) (vdrawn : Int32) (vtr : Int32) (vled : Int32) (vmov : Int32) (vw1 : Int32) (vw2 : Int32) (veo : Option Nat) (veb : Int32) (vh1 : Int64) (vt1 : Int64) (vp1 : Int32) (vk1 : Int32) (vg1 : Int32) (vh2 : Int64) (vt2 : Int64) (vp2 : Int32) (vk2 : Int32) (vg2 : Int32) (x0 : Int32) (h0 : ¬ (j_X2_isArchivist x0 = 0)) : jR l yX2_tricks wsX2_tricks rX2_tricks D [.ref a0, .int x0] (jC a0 aR aF aG cI vrow vdrawn vtr vled vmov vw1 vw2 veo veb vh1 vt1 vp1 vk1 vg1 vh2 vt2 vp2 vk2 vg2) [(cI, .int)] (.int (j_X2_tricks vk1 vk2 x0)) := by
  refine jR_of (cc := cX2_tricks) (maxL := 2) (ret := (some .int)) (by decide) rfl (Nat.le_of_ble_eq_true rfl) ?_
  intro p e s m below meth c ls S hr hlocks hP hK hN hl
  obtain ⟨hx, hb, hml, hown, hts⟩ := id S
  have hl : lv_has ls 2 [(0, .ref a0), (1, .int x0)] := hl
  refine lv_iload_n hx hb dX2_tricks_0 rfl (lv_at hl 1 rfl) ?_
  refine jr_callS (n := 1) (As := [.int x0]) (rest := []) S (c_X2_isArchivist x0) gX2_tricks_X2_isArchivist rfl (by decide +kernel) rfl ⟨⟨rfl, rfl⟩, ⟨Nat.le_of_ble_eq_true rfl, Nat.le_of_ble_eq_true rfl⟩, Nat.le_of_ble_eq_true rfl, Nat.le_of_ble_eq_true rfl⟩ hP hK hN [] [] rfl rfl (lv_nil hl) rfl (Nat.le_of_ble_eq_true rfl) dX2_tricks_1 ?_
  refine lv_if_ne (tgt := 17) hx hb dX2_tricks_4 (by decide) (fun _ => ?_) (fun c_ => absurd c_ h0)
  refine lv_aload_n hx hb dX2_tricks_17 rfl (lv_at hl 0 rfl) ?_
  refine lv_iload_n hx hb dX2_tricks_18 rfl (lv_at hl 1 rfl) ?_
  refine jr_callV (n := 1) (C := RX2) (As := [.int x0]) (rest := []) S (c_X2_archivist a0 aR aF aG cI vrow vdrawn vtr vled vmov vw1 vw2 veo veb vh1 vt1 vp1 vk1 vg1 vh2 vt2 vp2 vk2 vg2 x0) gX2_tricks_X2_archivist rfl (by decide +kernel) rfl ⟨⟨rfl, rfl⟩, ⟨Nat.le_of_ble_eq_true rfl, Nat.le_of_ble_eq_true rfl⟩, Nat.le_of_ble_eq_true rfl, Nat.le_of_ble_eq_true rfl⟩ hP hK hN [0, 1, 2, 3] [0] rfl rfl 0 2 rfl rfl rfl (lv_nil hl) rfl (Nat.le_of_ble_eq_true rfl) dX2_tricks_19 ?_
  refine jr_ite (c0 := x0 = 0) (a := aF) (b := aG) rfl (fun c_1 => ?_) (fun c_1 => ?_)
  · skip
    refine va_get (D := D) (ci := 0) (v := .int vk1) (C := RX0) (T := TX0) (N := 5) hx hb hts inX2_tricks_X0 hown hK hP 1 rfl rfl 3 (by decide) (hts (.fieldLink RX2 136 "ArchivistTricks$Archivist" "tricks" "I") (by decide +kernel)) (fun _ h9 => h9) rfl dX2_tricks_22 ?_
    exact jr_iret hx hb hr hlocks dX2_tricks_25 (by simp only [j_X2_tricks, if_neg h0, if_pos c_1])
  · skip
    refine va_get (D := D) (ci := 0) (v := .int vk2) (C := RX0) (T := TX0) (N := 5) hx hb hts inX2_tricks_X0 hown hK hP 2 rfl rfl 3 (by decide) (hts (.fieldLink RX2 136 "ArchivistTricks$Archivist" "tricks" "I") (by decide +kernel)) (fun _ h9 => h9) rfl dX2_tricks_22 ?_
    exact jr_iret hx hb hr hlocks dX2_tricks_25 (by simp only [j_X2_tricks, if_neg h0, if_neg c_1])

abbrev rX2_gloves : Room := { frames := 1, cells := 0, slots := 0, locals := 21 }
def j_X2_gloves (vg1 : Int32) (vg2 : Int32) (x0 : Int32) : Int32 := (if x0 = 0 then vg1 else vg2)
theorem inX2_gloves_X0 : ∀ w ∈ u_ws RX0 TX0 5, w ∈ wsX2_gloves := by decide +kernel
set_option maxRecDepth 100000 in
set_option maxHeartbeats 4000000 in
theorem c_X2_gloves {l : Launch} {D : va_G} (a0 : Nat) (aR : Nat) (aF : Nat) (aG : Nat) (cI : ClassId) (vrow : Nat → Int32) (vdrawn : Int32) (vtr : Int32) (vled : Int32) (vmov : Int32) (vw1 : Int32) (vw2 : Int32) (veo : Option Nat) (veb : Int32) (vh1 : Int64) (vt1 : Int64) (vp1 : Int32) (vk1 : Int32) (vg1 : Int32) (vh2 : Int64) (vt2 : Int64) (vp2 : Int32) (vk2 : Int32) (vg2 : Int32) (x0 : Int32) (h0 : ¬ (j_X2_isArchivist x0 = 0)) : jR l yX2_gloves wsX2_gloves rX2_gloves D [.ref a0, .int x0] (jC a0 aR aF aG cI vrow vdrawn vtr vled vmov vw1 vw2 veo veb vh1 vt1 vp1 vk1 vg1 vh2 vt2 vp2 vk2 vg2) [(cI, .int)] (.int (j_X2_gloves vg1 vg2 x0)) := by
  refine jR_of (cc := cX2_gloves) (maxL := 2) (ret := (some .int)) (by decide) rfl (Nat.le_of_ble_eq_true rfl) ?_
  intro p e s m below meth c ls S hr hlocks hP hK hN hl
  obtain ⟨hx, hb, hml, hown, hts⟩ := id S
  have hl : lv_has ls 2 [(0, .ref a0), (1, .int x0)] := hl
  refine lv_iload_n hx hb dX2_gloves_0 rfl (lv_at hl 1 rfl) ?_
  refine jr_callS (n := 1) (As := [.int x0]) (rest := []) S (c_X2_isArchivist x0) gX2_gloves_X2_isArchivist rfl (by decide +kernel) rfl ⟨⟨rfl, rfl⟩, ⟨Nat.le_of_ble_eq_true rfl, Nat.le_of_ble_eq_true rfl⟩, Nat.le_of_ble_eq_true rfl, Nat.le_of_ble_eq_true rfl⟩ hP hK hN [] [] rfl rfl (lv_nil hl) rfl (Nat.le_of_ble_eq_true rfl) dX2_gloves_1 ?_
  refine lv_if_ne (tgt := 17) hx hb dX2_gloves_4 (by decide) (fun _ => ?_) (fun c_ => absurd c_ h0)
  refine lv_aload_n hx hb dX2_gloves_17 rfl (lv_at hl 0 rfl) ?_
  refine lv_iload_n hx hb dX2_gloves_18 rfl (lv_at hl 1 rfl) ?_
  refine jr_callV (n := 1) (C := RX2) (As := [.int x0]) (rest := []) S (c_X2_archivist a0 aR aF aG cI vrow vdrawn vtr vled vmov vw1 vw2 veo veb vh1 vt1 vp1 vk1 vg1 vh2 vt2 vp2 vk2 vg2 x0) gX2_gloves_X2_archivist rfl (by decide +kernel) rfl ⟨⟨rfl, rfl⟩, ⟨Nat.le_of_ble_eq_true rfl, Nat.le_of_ble_eq_true rfl⟩, Nat.le_of_ble_eq_true rfl, Nat.le_of_ble_eq_true rfl⟩ hP hK hN [0, 1, 2, 3] [0] rfl rfl 0 2 rfl rfl rfl (lv_nil hl) rfl (Nat.le_of_ble_eq_true rfl) dX2_gloves_19 ?_
  refine jr_ite (c0 := x0 = 0) (a := aF) (b := aG) rfl (fun c_1 => ?_) (fun c_1 => ?_)
  · skip
    refine va_get (D := D) (ci := 0) (v := .int vg1) (C := RX0) (T := TX0) (N := 5) hx hb hts inX2_gloves_X0 hown hK hP 1 rfl rfl 4 (by decide) (hts (.fieldLink RX2 105 "ArchivistTricks$Archivist" "gloves" "I") (by decide +kernel)) (fun _ h9 => h9) rfl dX2_gloves_22 ?_
    exact jr_iret hx hb hr hlocks dX2_gloves_25 (by simp only [j_X2_gloves, if_neg h0, if_pos c_1])
  · skip
    refine va_get (D := D) (ci := 0) (v := .int vg2) (C := RX0) (T := TX0) (N := 5) hx hb hts inX2_gloves_X0 hown hK hP 2 rfl rfl 4 (by decide) (hts (.fieldLink RX2 105 "ArchivistTricks$Archivist" "gloves" "I") (by decide +kernel)) (fun _ h9 => h9) rfl dX2_gloves_22 ?_
    exact jr_iret hx hb hr hlocks dX2_gloves_25 (by simp only [j_X2_gloves, if_neg h0, if_neg c_1])

abbrev rX2_wouldTake : Room := { frames := 3, cells := 0, slots := 0, locals := 63 }
def j_X2_wouldTake (vtr : Int32) (vled : Int32) (vmov : Int32) (x0 : Int32) : Int32 := j_X2_takerBy vtr vled vmov x0
theorem inX2_wouldTake_X2 : ∀ w ∈ u_ws RX2 TX2 11, w ∈ wsX2_wouldTake := by decide +kernel
set_option maxRecDepth 100000 in
set_option maxHeartbeats 4000000 in
theorem c_X2_wouldTake {l : Launch} {D : va_G} (a0 : Nat) (aR : Nat) (aF : Nat) (aG : Nat) (cI : ClassId) (vrow : Nat → Int32) (vdrawn : Int32) (vtr : Int32) (vled : Int32) (vmov : Int32) (vw1 : Int32) (vw2 : Int32) (veo : Option Nat) (veb : Int32) (vh1 : Int64) (vt1 : Int64) (vp1 : Int32) (vk1 : Int32) (vg1 : Int32) (vh2 : Int64) (vt2 : Int64) (vp2 : Int32) (vk2 : Int32) (vg2 : Int32) (x0 : Int32) (h0 : ¬ (j_X2_isCard x0 = 0)) (h1 : ¬ (vled = (-1))) (h2 : ¬ (vled = x0)) : jR l yX2_wouldTake wsX2_wouldTake rX2_wouldTake D [.ref a0, .int x0] (jC a0 aR aF aG cI vrow vdrawn vtr vled vmov vw1 vw2 veo veb vh1 vt1 vp1 vk1 vg1 vh2 vt2 vp2 vk2 vg2) [(cI, .int)] (.int (j_X2_wouldTake vtr vled vmov x0)) := by
  refine jR_of (cc := cX2_wouldTake) (maxL := 2) (ret := (some .int)) (by decide) rfl (Nat.le_of_ble_eq_true rfl) ?_
  intro p e s m below meth c ls S hr hlocks hP hK hN hl
  obtain ⟨hx, hb, hml, hown, hts⟩ := id S
  have hl : lv_has ls 2 [(0, .ref a0), (1, .int x0)] := hl
  refine lv_iload_n hx hb dX2_wouldTake_0 rfl (lv_at hl 1 rfl) ?_
  refine jr_callS (n := 1) (As := [.int x0]) (rest := []) S (c_X2_isCard x0) gX2_wouldTake_X2_isCard rfl (by decide +kernel) rfl ⟨⟨rfl, rfl⟩, ⟨Nat.le_of_ble_eq_true rfl, Nat.le_of_ble_eq_true rfl⟩, Nat.le_of_ble_eq_true rfl, Nat.le_of_ble_eq_true rfl⟩ hP hK hN [] [] rfl rfl (lv_nil hl) rfl (Nat.le_of_ble_eq_true rfl) dX2_wouldTake_1 ?_
  refine lv_if_ne (tgt := 17) hx hb dX2_wouldTake_4 (by decide) (fun _ => ?_) (fun c_ => absurd c_ h0)
  refine lv_aload_n hx hb dX2_wouldTake_17 rfl (lv_at hl 0 rfl) ?_
  refine va_get (D := D) (ci := 2) (v := .int vled) (C := RX2) (T := TX2) (N := 11) hx hb hts inX2_wouldTake_X2 hown hK hP 0 rfl rfl 5 (by decide) (hts (.fieldLink RX2 30 "ArchivistTricks" "ledCard" "I") (by decide +kernel)) (fun _ h9 => h9) rfl dX2_wouldTake_18 ?_
  refine lv_iconst (v := (-1)) hx hb dX2_wouldTake_21 (by decide) ?_
  refine lv_icmp_eq (tgt := 33) hx hb dX2_wouldTake_22 (by decide) (fun c_ => absurd c_ h1) (fun _ => ?_)
  refine lv_aload_n hx hb dX2_wouldTake_25 rfl (lv_at hl 0 rfl) ?_
  refine va_get (D := D) (ci := 2) (v := .int vled) (C := RX2) (T := TX2) (N := 11) hx hb hts inX2_wouldTake_X2 hown hK hP 0 rfl rfl 5 (by decide) (hts (.fieldLink RX2 30 "ArchivistTricks" "ledCard" "I") (by decide +kernel)) (fun _ h9 => h9) rfl dX2_wouldTake_26 ?_
  refine lv_iload_n hx hb dX2_wouldTake_29 rfl (lv_at hl 1 rfl) ?_
  refine lv_icmp_ne (tgt := 43) hx hb dX2_wouldTake_30 (by decide) (fun _ => ?_) (fun c_ => absurd c_ h2)
  refine lv_aload_n hx hb dX2_wouldTake_43 rfl (lv_at hl 0 rfl) ?_
  refine lv_iload_n hx hb dX2_wouldTake_44 rfl (lv_at hl 1 rfl) ?_
  refine jr_callV (n := 1) (C := RX2) (As := [.int x0]) (rest := []) S (c_X2_takerBy a0 aR aF aG cI vrow vdrawn vtr vled vmov vw1 vw2 veo veb vh1 vt1 vp1 vk1 vg1 vh2 vt2 vp2 vk2 vg2 x0) gX2_wouldTake_X2_takerBy rfl (by decide +kernel) rfl ⟨⟨rfl, rfl⟩, ⟨Nat.le_of_ble_eq_true rfl, Nat.le_of_ble_eq_true rfl⟩, Nat.le_of_ble_eq_true rfl, Nat.le_of_ble_eq_true rfl⟩ hP hK hN [0, 1, 2, 3] [0] rfl rfl 0 2 rfl rfl rfl (lv_nil hl) rfl (Nat.le_of_ble_eq_true rfl) dX2_wouldTake_45 ?_
  exact jr_iret hx hb hr hlocks dX2_wouldTake_48 (by simp only [j_X2_wouldTake, if_neg h0, if_neg h1, if_neg h2])

abbrev rX2_cardAt : Room := { frames := 1, cells := 0, slots := 0, locals := 22 }
def j_X2_cardAt_32 (vh1 : Int64) (vh2 : Int64) (x0 : Int32) (x1 : Int32) : Nat → Nat → Int64 → Int32 → Int32
  | 0, i, y3, y5 => (-1)
  | n + 1, i, y3, y5 => (if j_X2_has y3 (nI i) = 0 then j_X2_cardAt_32 vh1 vh2 x0 x1 n (i + 1) y3 y5 else (if y5 = x1 then nI i else j_X2_cardAt_32 vh1 vh2 x0 x1 n (i + 1) y3 (y5 + 1)))
def j_X2_cardAt (vh1 : Int64) (vh2 : Int64) (x0 : Int32) (x1 : Int32) : Int32 := (if x0 = 0 then j_X2_cardAt_32 vh1 vh2 x0 x1 42 0 vh1 0 else j_X2_cardAt_32 vh1 vh2 x0 x1 42 0 vh2 0)
theorem inX2_cardAt_X0 : ∀ w ∈ u_ws RX0 TX0 5, w ∈ wsX2_cardAt := by decide +kernel
set_option maxRecDepth 100000 in
set_option maxHeartbeats 4000000 in
theorem c_X2_cardAt {l : Launch} {D : va_G} (a0 : Nat) (aR : Nat) (aF : Nat) (aG : Nat) (cI : ClassId) (vrow : Nat → Int32) (vdrawn : Int32) (vtr : Int32) (vled : Int32) (vmov : Int32) (vw1 : Int32) (vw2 : Int32) (veo : Option Nat) (veb : Int32) (vh1 : Int64) (vt1 : Int64) (vp1 : Int32) (vk1 : Int32) (vg1 : Int32) (vh2 : Int64) (vt2 : Int64) (vp2 : Int32) (vk2 : Int32) (vg2 : Int32) (x0 : Int32) (x1 : Int32) (hne : ¬ (j_X2_cardAt vh1 vh2 x0 x1) = -1) (h0 : ¬ (j_X2_isArchivist x0 = 0)) : jR l yX2_cardAt wsX2_cardAt rX2_cardAt D [.ref a0, .int x0, .int x1] (jC a0 aR aF aG cI vrow vdrawn vtr vled vmov vw1 vw2 veo veb vh1 vt1 vp1 vk1 vg1 vh2 vt2 vp2 vk2 vg2) [(cI, .int)] (.int (j_X2_cardAt vh1 vh2 x0 x1)) := by
  refine jR_of (cc := cX2_cardAt) (maxL := 7) (ret := (some .int)) (by decide) rfl (Nat.le_of_ble_eq_true rfl) ?_
  intro p e s m below meth c ls S hr hlocks hP hK hN hl
  obtain ⟨hx, hb, hml, hown, hts⟩ := id S
  have hl : lv_has ls 7 [(0, .ref a0), (1, .int x0), (2, .int x1)] := hl
  have loop32 : ∀ (n i : Nat) (y3 : Int64) (y5 : Int32), i + n = 42 → j_X2_cardAt_32 vh1 vh2 x0 x1 n i y3 y5 = (j_X2_cardAt vh1 vh2 x0 x1) → ∀ (ls : Array Slot), lv_has ls 7 [(6, .int (nI i)), (3, .long y3), (5, .int y5), (0, .ref a0), (1, .int x0), (2, .int x1)] → W p l e rX2_cardAt s m ([.ref a0, .int x0, .int x1] : List Value).toArray below meth c s.heap [] 0 0 (MQ below (k2_QcV (.int (j_X2_cardAt vh1 vh2 x0 x1))) ([.ref a0, .int x0, .int x1] : List Value).toArray s 0 0 (fun _ => False)) (F0 m 32 ls []) := by
    intro n
    induction n with
    | zero =>
      intro i y3 y5 hin hv ls hl
      have hge : (42 : Int32) ≤ nI i := by rw [show i = 42 by omega]; decide
      have hgl : ¬ nI i < (42 : Int32) := by rw [show i = 42 by omega]; decide
      refine lv_iload hx hb dX2_cardAt_32 (lv_at hl 0 rfl) ?_
      refine lv_bipush (v := 42) hx hb dX2_cardAt_34 (by decide) ?_
      refine lv_icmp_ge (tgt := 66) hx hb dX2_cardAt_36 (by decide) (fun _ => ?_) (fun c_ => absurd hge c_)
      exact absurd (by rw [← hv]; simp only [j_X2_cardAt_32]) hne
    | succ n ih =>
      intro i y3 y5 hin hv ls hl
      have hge : ¬ (42 : Int32) ≤ nI i := nI_ge (a := i) (b := 42) (by omega) (by decide)
      have hgl : nI i < (42 : Int32) := nI_lt (a := i) (b := 42) (by omega) (by decide)
      refine lv_iload hx hb dX2_cardAt_32 (lv_at hl 0 rfl) ?_
      refine lv_bipush (v := 42) hx hb dX2_cardAt_34 (by decide) ?_
      refine lv_icmp_ge (tgt := 66) hx hb dX2_cardAt_36 (by decide) (fun c_ => absurd c_ hge) (fun _ => ?_)
      refine lv_lload_n hx hb dX2_cardAt_39 rfl (lv_at hl 1 rfl) ?_
      refine lv_iload hx hb dX2_cardAt_40 (lv_at hl 0 rfl) ?_
      refine jr_callS (n := 2) (As := [.long y3, .int (nI i)]) (rest := []) S (c_X2_has y3 (nI i)) gX2_cardAt_X2_has rfl (by decide +kernel) rfl ⟨⟨rfl, rfl⟩, ⟨Nat.le_of_ble_eq_true rfl, Nat.le_of_ble_eq_true rfl⟩, Nat.le_of_ble_eq_true rfl, Nat.le_of_ble_eq_true rfl⟩ hP hK hN [] [] rfl rfl (lv_nil hl) rfl (Nat.le_of_ble_eq_true rfl) dX2_cardAt_42 ?_
      refine lv_if_eq (tgt := 60) hx hb dX2_cardAt_45 (by decide) (fun c_32001 => ?_) (fun c_32001 => ?_)
      · skip
        refine lv_iinc (v := nI (i + 1)) (lv' := [(6, .int (nI (i + 1))), (3, .long y3), (5, .int y5), (0, .ref a0), (1, .int x0), (2, .int x1)]) hx hb dX2_cardAt_60 hl (k := 0) rfl (nI_1 i) (by decide) rfl (fun ls hl => ?_)
        refine lv_goto (tgt := 32) hx hb dX2_cardAt_63 (by decide) ?_
        exact ih (i + 1) y3 y5 (by omega) (by rw [← hv]; simp only [j_X2_cardAt_32, if_neg h0, if_neg hge, if_pos hgl, if_pos c_32001]) ls (lv_sub hl [0, 1, 2, 3, 4, 5] rfl)
      · skip
        refine lv_iload hx hb dX2_cardAt_48 (lv_at hl 2 rfl) ?_
        refine lv_iload_n hx hb dX2_cardAt_50 rfl (lv_at hl 5 rfl) ?_
        refine lv_icmp_ne (tgt := 57) hx hb dX2_cardAt_51 (by decide) (fun c_32002 => ?_) (fun c_32002 => ?_)
        · skip
          refine lv_iinc (v := y5 + 1) (lv' := [(5, .int (y5 + 1)), (6, .int (nI i)), (3, .long y3), (0, .ref a0), (1, .int x0), (2, .int x1)]) hx hb dX2_cardAt_57 hl (k := 2) rfl rfl (by decide) rfl (fun ls hl => ?_)
          refine lv_iinc (v := nI (i + 1)) (lv' := [(6, .int (nI (i + 1))), (5, .int (y5 + 1)), (3, .long y3), (0, .ref a0), (1, .int x0), (2, .int x1)]) hx hb dX2_cardAt_60 hl (k := 1) rfl (nI_1 i) (by decide) rfl (fun ls hl => ?_)
          refine lv_goto (tgt := 32) hx hb dX2_cardAt_63 (by decide) ?_
          exact ih (i + 1) y3 (y5 + 1) (by omega) (by rw [← hv]; simp only [j_X2_cardAt_32, if_neg h0, if_neg hge, if_pos hgl, if_neg c_32001, if_neg c_32002]) ls (lv_sub hl [0, 2, 1, 3, 4, 5] rfl)
        · skip
          refine lv_iload hx hb dX2_cardAt_54 (lv_at hl 0 rfl) ?_
          exact jr_iret hx hb hr hlocks dX2_cardAt_56 (by rw [← hv]; simp only [j_X2_cardAt_32, if_neg h0, if_neg hge, if_pos hgl, if_neg c_32001, if_pos c_32002])
  refine lv_iload_n hx hb dX2_cardAt_0 rfl (lv_at hl 1 rfl) ?_
  refine jr_callS (n := 1) (As := [.int x0]) (rest := []) S (c_X2_isArchivist x0) gX2_cardAt_X2_isArchivist rfl (by decide +kernel) rfl ⟨⟨rfl, rfl⟩, ⟨Nat.le_of_ble_eq_true rfl, Nat.le_of_ble_eq_true rfl⟩, Nat.le_of_ble_eq_true rfl, Nat.le_of_ble_eq_true rfl⟩ hP hK hN [] [] rfl rfl (lv_nil hl) rfl (Nat.le_of_ble_eq_true rfl) dX2_cardAt_1 ?_
  refine lv_if_ne (tgt := 17) hx hb dX2_cardAt_4 (by decide) (fun _ => ?_) (fun c_ => absurd c_ h0)
  refine lv_aload_n hx hb dX2_cardAt_17 rfl (lv_at hl 0 rfl) ?_
  refine lv_iload_n hx hb dX2_cardAt_18 rfl (lv_at hl 1 rfl) ?_
  refine jr_callV (n := 1) (C := RX2) (As := [.int x0]) (rest := []) S (c_X2_archivist a0 aR aF aG cI vrow vdrawn vtr vled vmov vw1 vw2 veo veb vh1 vt1 vp1 vk1 vg1 vh2 vt2 vp2 vk2 vg2 x0) gX2_cardAt_X2_archivist rfl (by decide +kernel) rfl ⟨⟨rfl, rfl⟩, ⟨Nat.le_of_ble_eq_true rfl, Nat.le_of_ble_eq_true rfl⟩, Nat.le_of_ble_eq_true rfl, Nat.le_of_ble_eq_true rfl⟩ hP hK hN [0, 1, 2, 3] [0] rfl rfl 0 2 rfl rfl rfl (lv_nil hl) rfl (Nat.le_of_ble_eq_true rfl) dX2_cardAt_19 ?_
  refine jr_ite (c0 := x0 = 0) (a := aF) (b := aG) rfl (fun c_1 => ?_) (fun c_1 => ?_)
  · skip
    refine va_get (D := D) (ci := 0) (v := .long vh1) (C := RX0) (T := TX0) (N := 5) hx hb hts inX2_cardAt_X0 hown hK hP 1 rfl rfl 0 (by decide) (hts (.fieldLink RX2 91 "ArchivistTricks$Archivist" "hand" "J") (by decide +kernel)) (fun _ h9 => h9) rfl dX2_cardAt_22 ?_
    refine lv_lstore_n (lv' := [(3, .long vh1), (0, .ref a0), (1, .int x0), (2, .int x1)]) hx hb dX2_cardAt_25 rfl hl (by decide) rfl (fun ls hl => ?_)
    refine lv_iconst (v := 0) hx hb dX2_cardAt_26 (by decide) ?_
    refine lv_istore (lv' := [(5, .int 0), (3, .long vh1), (0, .ref a0), (1, .int x0), (2, .int x1)]) hx hb dX2_cardAt_27 hl (by decide) rfl (fun ls hl => ?_)
    refine lv_iconst (v := 0) hx hb dX2_cardAt_29 (by decide) ?_
    refine lv_istore (lv' := [(6, .int 0), (5, .int 0), (3, .long vh1), (0, .ref a0), (1, .int x0), (2, .int x1)]) hx hb dX2_cardAt_30 hl (by decide) rfl (fun ls hl => ?_)
    exact loop32 42 0 vh1 0 rfl (by simp only [j_X2_cardAt, if_neg h0, if_pos c_1]) ls (lv_sub (l' := [(6, .int (nI 0)), (3, .long vh1), (5, .int 0), (0, .ref a0), (1, .int x0), (2, .int x1)]) hl [0, 2, 1, 3, 4, 5] rfl)
  · skip
    refine va_get (D := D) (ci := 0) (v := .long vh2) (C := RX0) (T := TX0) (N := 5) hx hb hts inX2_cardAt_X0 hown hK hP 2 rfl rfl 0 (by decide) (hts (.fieldLink RX2 91 "ArchivistTricks$Archivist" "hand" "J") (by decide +kernel)) (fun _ h9 => h9) rfl dX2_cardAt_22 ?_
    refine lv_lstore_n (lv' := [(3, .long vh2), (0, .ref a0), (1, .int x0), (2, .int x1)]) hx hb dX2_cardAt_25 rfl hl (by decide) rfl (fun ls hl => ?_)
    refine lv_iconst (v := 0) hx hb dX2_cardAt_26 (by decide) ?_
    refine lv_istore (lv' := [(5, .int 0), (3, .long vh2), (0, .ref a0), (1, .int x0), (2, .int x1)]) hx hb dX2_cardAt_27 hl (by decide) rfl (fun ls hl => ?_)
    refine lv_iconst (v := 0) hx hb dX2_cardAt_29 (by decide) ?_
    refine lv_istore (lv' := [(6, .int 0), (5, .int 0), (3, .long vh2), (0, .ref a0), (1, .int x0), (2, .int x1)]) hx hb dX2_cardAt_30 hl (by decide) rfl (fun ls hl => ?_)
    exact loop32 42 0 vh2 0 rfl (by simp only [j_X2_cardAt, if_neg h0, if_neg c_1]) ls (lv_sub (l' := [(6, .int (nI 0)), (3, .long vh2), (5, .int 0), (0, .ref a0), (1, .int x0), (2, .int x1)]) hl [0, 2, 1, 3, 4, 5] rfl)

abbrev rX2_play : Room := { frames := 4, cells := 0, slots := 0, locals := 87 }
def j_X2_play (vtr : Int32) (vled : Int32) (vmov : Int32) (x0 : Int32) : Int32 := (if vled = (-1) then (-1) else j_X2_finishTrick vtr vled vmov x0)
def j_X2_play_vdrawn (vdrawn : Int32) (vtr : Int32) (vled : Int32) (vmov : Int32) (x0 : Int32) : Int32 := (if vled = (-1) then vdrawn else j_X2_finishTrick_vdrawn vdrawn vtr vled vmov x0)
def j_X2_play_vled (vled : Int32) (x0 : Int32) : Int32 := (if vled = (-1) then x0 else j_X2_finishTrick_vled)
def j_X2_play_vmov (vrow : Nat → Int32) (vdrawn : Int32) (vtr : Int32) (vled : Int32) (vmov : Int32) (vh1 : Int64) (vh2 : Int64) (x0 : Int32) : Int32 := (if vmov = 0 then (if vled = (-1) then 1 - vmov else j_X2_finishTrick_vmov vrow vdrawn vtr vled vmov (vh1 &&& ((j_X2_bit x0) ^^^ (-1))) vh2 x0) else (if vled = (-1) then 1 - vmov else j_X2_finishTrick_vmov vrow vdrawn vtr vled vmov vh1 (vh2 &&& ((j_X2_bit x0) ^^^ (-1))) x0))
def j_X2_play_vw1 (vrow : Nat → Int32) (vdrawn : Int32) (vtr : Int32) (vled : Int32) (vmov : Int32) (vw1 : Int32) (vh1 : Int64) (vp1 : Int32) (vg1 : Int32) (vh2 : Int64) (vp2 : Int32) (vg2 : Int32) (x0 : Int32) : Int32 := (if vmov = 0 then (if vled = (-1) then vw1 else j_X2_finishTrick_vw1 vrow vdrawn vtr vled vmov vw1 (vh1 &&& ((j_X2_bit x0) ^^^ (-1))) vp1 vg1 vh2 vp2 vg2 x0) else (if vled = (-1) then vw1 else j_X2_finishTrick_vw1 vrow vdrawn vtr vled vmov vw1 vh1 vp1 vg1 (vh2 &&& ((j_X2_bit x0) ^^^ (-1))) vp2 vg2 x0))
def j_X2_play_vw2 (vrow : Nat → Int32) (vdrawn : Int32) (vtr : Int32) (vled : Int32) (vmov : Int32) (vw2 : Int32) (vh1 : Int64) (vp1 : Int32) (vg1 : Int32) (vh2 : Int64) (vp2 : Int32) (vg2 : Int32) (x0 : Int32) : Int32 := (if vmov = 0 then (if vled = (-1) then vw2 else j_X2_finishTrick_vw2 vrow vdrawn vtr vled vmov vw2 (vh1 &&& ((j_X2_bit x0) ^^^ (-1))) vp1 vg1 vh2 vp2 vg2 x0) else (if vled = (-1) then vw2 else j_X2_finishTrick_vw2 vrow vdrawn vtr vled vmov vw2 vh1 vp1 vg1 (vh2 &&& ((j_X2_bit x0) ^^^ (-1))) vp2 vg2 x0))
def j_X2_play_vh1 (vrow : Nat → Int32) (vdrawn : Int32) (vtr : Int32) (vled : Int32) (vmov : Int32) (vh1 : Int64) (x0 : Int32) : Int64 := (if vmov = 0 then (if vled = (-1) then vh1 &&& ((j_X2_bit x0) ^^^ (-1)) else j_X2_finishTrick_vh1 vrow vdrawn vtr vled vmov (vh1 &&& ((j_X2_bit x0) ^^^ (-1))) x0) else (if vled = (-1) then vh1 else j_X2_finishTrick_vh1 vrow vdrawn vtr vled vmov vh1 x0))
def j_X2_play_vt1 (vtr : Int32) (vled : Int32) (vmov : Int32) (vt1 : Int64) (x0 : Int32) : Int64 := (if vled = (-1) then vt1 else j_X2_finishTrick_vt1 vtr vled vmov vt1 x0)
def j_X2_play_vp1 (vtr : Int32) (vled : Int32) (vmov : Int32) (vp1 : Int32) (vg1 : Int32) (x0 : Int32) : Int32 := (if vled = (-1) then vp1 else j_X2_finishTrick_vp1 vtr vled vmov vp1 vg1 x0)
def j_X2_play_vk1 (vtr : Int32) (vled : Int32) (vmov : Int32) (vk1 : Int32) (x0 : Int32) : Int32 := (if vled = (-1) then vk1 else j_X2_finishTrick_vk1 vtr vled vmov vk1 x0)
def j_X2_play_vg1 (vled : Int32) (vg1 : Int32) : Int32 := (if vled = (-1) then vg1 else j_X2_finishTrick_vg1 vg1)
def j_X2_play_vh2 (vrow : Nat → Int32) (vdrawn : Int32) (vtr : Int32) (vled : Int32) (vmov : Int32) (vh2 : Int64) (x0 : Int32) : Int64 := (if vmov = 0 then (if vled = (-1) then vh2 else j_X2_finishTrick_vh2 vrow vdrawn vtr vled vmov vh2 x0) else (if vled = (-1) then vh2 &&& ((j_X2_bit x0) ^^^ (-1)) else j_X2_finishTrick_vh2 vrow vdrawn vtr vled vmov (vh2 &&& ((j_X2_bit x0) ^^^ (-1))) x0))
def j_X2_play_vt2 (vtr : Int32) (vled : Int32) (vmov : Int32) (vt2 : Int64) (x0 : Int32) : Int64 := (if vled = (-1) then vt2 else j_X2_finishTrick_vt2 vtr vled vmov vt2 x0)
def j_X2_play_vp2 (vtr : Int32) (vled : Int32) (vmov : Int32) (vp2 : Int32) (vg2 : Int32) (x0 : Int32) : Int32 := (if vled = (-1) then vp2 else j_X2_finishTrick_vp2 vtr vled vmov vp2 vg2 x0)
def j_X2_play_vk2 (vtr : Int32) (vled : Int32) (vmov : Int32) (vk2 : Int32) (x0 : Int32) : Int32 := (if vled = (-1) then vk2 else j_X2_finishTrick_vk2 vtr vled vmov vk2 x0)
def j_X2_play_vg2 (vled : Int32) (vg2 : Int32) : Int32 := (if vled = (-1) then vg2 else j_X2_finishTrick_vg2 vg2)
theorem inX2_play_X0 : ∀ w ∈ u_ws RX0 TX0 5, w ∈ wsX2_play := by decide +kernel
theorem inX2_play_X2 : ∀ w ∈ u_ws RX2 TX2 11, w ∈ wsX2_play := by decide +kernel
set_option maxRecDepth 100000 in
set_option maxHeartbeats 8000000 in
theorem c_X2_play {l : Launch} {D : va_G} (a0 : Nat) (aR : Nat) (aF : Nat) (aG : Nat) (cI : ClassId) (vrow : Nat → Int32) (vdrawn : Int32) (vtr : Int32) (vled : Int32) (vmov : Int32) (vw1 : Int32) (vw2 : Int32) (veo : Option Nat) (veb : Int32) (vh1 : Int64) (vt1 : Int64) (vp1 : Int32) (vk1 : Int32) (vg1 : Int32) (vh2 : Int64) (vt2 : Int64) (vp2 : Int32) (vk2 : Int32) (vg2 : Int32) (x0 : Int32) (h0 : ¬ (j_X2_isCard x0 = 0)) (h1 : j_X2_reasonAgainst vdrawn vtr vled vmov vh1 vh2 x0 = 0) : jWi l yX2_play wsX2_play rX2_play D [.ref a0, .int x0] (jC a0 aR aF aG cI vrow vdrawn vtr vled vmov vw1 vw2 veo veb vh1 vt1 vp1 vk1 vg1 vh2 vt2 vp2 vk2 vg2) [(cI, .int)] (j_X2_play vtr vled vmov x0) (jC a0 aR aF aG cI vrow (j_X2_play_vdrawn vdrawn vtr vled vmov x0) vtr (j_X2_play_vled vled x0) (j_X2_play_vmov vrow vdrawn vtr vled vmov vh1 vh2 x0) (j_X2_play_vw1 vrow vdrawn vtr vled vmov vw1 vh1 vp1 vg1 vh2 vp2 vg2 x0) (j_X2_play_vw2 vrow vdrawn vtr vled vmov vw2 vh1 vp1 vg1 vh2 vp2 vg2 x0) veo veb (j_X2_play_vh1 vrow vdrawn vtr vled vmov vh1 x0) (j_X2_play_vt1 vtr vled vmov vt1 x0) (j_X2_play_vp1 vtr vled vmov vp1 vg1 x0) (j_X2_play_vk1 vtr vled vmov vk1 x0) (j_X2_play_vg1 vled vg1) (j_X2_play_vh2 vrow vdrawn vtr vled vmov vh2 x0) (j_X2_play_vt2 vtr vled vmov vt2 x0) (j_X2_play_vp2 vtr vled vmov vp2 vg2 x0) (j_X2_play_vk2 vtr vled vmov vk2 x0) (j_X2_play_vg2 vled vg2)) := by
  refine jW_of (QQ := fun A => (jQi D (j_X2_play vtr vled vmov x0) (jC a0 aR aF aG cI vrow (j_X2_play_vdrawn vdrawn vtr vled vmov x0) vtr (j_X2_play_vled vled x0) (j_X2_play_vmov vrow vdrawn vtr vled vmov vh1 vh2 x0) (j_X2_play_vw1 vrow vdrawn vtr vled vmov vw1 vh1 vp1 vg1 vh2 vp2 vg2 x0) (j_X2_play_vw2 vrow vdrawn vtr vled vmov vw2 vh1 vp1 vg1 vh2 vp2 vg2 x0) veo veb (j_X2_play_vh1 vrow vdrawn vtr vled vmov vh1 x0) (j_X2_play_vt1 vtr vled vmov vt1 x0) (j_X2_play_vp1 vtr vled vmov vp1 vg1 x0) (j_X2_play_vk1 vtr vled vmov vk1 x0) (j_X2_play_vg1 vled vg1) (j_X2_play_vh2 vrow vdrawn vtr vled vmov vh2 x0) (j_X2_play_vt2 vtr vled vmov vt2 x0) (j_X2_play_vp2 vtr vled vmov vp2 vg2 x0) (j_X2_play_vk2 vtr vled vmov vk2 x0) (j_X2_play_vg2 vled vg2)) [(cI, .int)] A)) (cc := cX2_play) (maxL := 3) (ret := (some .int)) (by decide) rfl (Nat.le_of_ble_eq_true rfl) ?_
  intro p e s m below meth c ls A S hr hlocks hini hP hK hN hD hS hA hl
  obtain ⟨hx, hb, hml, hown, hts⟩ := id S
  have hl : lv_has ls 3 [(0, .ref a0), (1, .int x0)] := hl
  refine lv_iload_n hx hb dX2_play_0 rfl (lv_at hl 1 rfl) ?_
  refine jr_callS (n := 1) (As := [.int x0]) (rest := []) S (c_X2_isCard x0) gX2_play_X2_isCard rfl (by decide +kernel) rfl ⟨⟨rfl, rfl⟩, ⟨Nat.le_of_ble_eq_true rfl, Nat.le_of_ble_eq_true rfl⟩, Nat.le_of_ble_eq_true rfl, Nat.le_of_ble_eq_true rfl⟩ hP hK hN [] [] rfl rfl (lv_nil hl) rfl (Nat.le_of_ble_eq_true rfl) dX2_play_1 ?_
  refine lv_if_ne (tgt := 17) hx hb dX2_play_4 (by decide) (fun _ => ?_) (fun c_ => absurd c_ h0)
  refine lv_aload_n hx hb dX2_play_17 rfl (lv_at hl 0 rfl) ?_
  refine lv_iload_n hx hb dX2_play_18 rfl (lv_at hl 1 rfl) ?_
  refine jr_callV (n := 1) (C := RX2) (As := [.int x0]) (rest := []) S (c_X2_reasonAgainst a0 aR aF aG cI vrow vdrawn vtr vled vmov vw1 vw2 veo veb vh1 vt1 vp1 vk1 vg1 vh2 vt2 vp2 vk2 vg2 x0) gX2_play_X2_reasonAgainst rfl (by decide +kernel) rfl ⟨⟨rfl, rfl⟩, ⟨Nat.le_of_ble_eq_true rfl, Nat.le_of_ble_eq_true rfl⟩, Nat.le_of_ble_eq_true rfl, Nat.le_of_ble_eq_true rfl⟩ hP hK hN [0, 1, 2, 3] [0] rfl rfl 0 2 rfl rfl rfl (lv_nil hl) rfl (Nat.le_of_ble_eq_true rfl) dX2_play_19 ?_
  refine lv_if_eq (tgt := 35) hx hb dX2_play_22 (by decide) (fun _ => ?_) (fun c_ => absurd h1 c_)
  refine lv_aload_n hx hb dX2_play_35 rfl (lv_at hl 0 rfl) ?_
  refine lv_aload_n hx hb dX2_play_36 rfl (lv_at hl 0 rfl) ?_
  refine va_get (D := D) (ci := 2) (v := .int vmov) (C := RX2) (T := TX2) (N := 11) hx hb hts inX2_play_X2 hown hK hP 0 rfl rfl 6 (by decide) (hts (.fieldLink RX2 33 "ArchivistTricks" "mover" "I") (by decide +kernel)) (fun _ h9 => h9) rfl dX2_play_37 ?_
  refine jr_callV (n := 1) (C := RX2) (As := [.int vmov]) (rest := []) S (c_X2_archivist a0 aR aF aG cI vrow vdrawn vtr vled vmov vw1 vw2 veo veb vh1 vt1 vp1 vk1 vg1 vh2 vt2 vp2 vk2 vg2 vmov) gX2_play_X2_archivist rfl (by decide +kernel) rfl ⟨⟨rfl, rfl⟩, ⟨Nat.le_of_ble_eq_true rfl, Nat.le_of_ble_eq_true rfl⟩, Nat.le_of_ble_eq_true rfl, Nat.le_of_ble_eq_true rfl⟩ hP hK hN [0, 1, 2, 3] [0] rfl rfl 0 2 rfl rfl rfl (lv_nil hl) rfl (Nat.le_of_ble_eq_true rfl) dX2_play_40 ?_
  refine jr_ite (c0 := vmov = 0) (a := aF) (b := aG) rfl (fun c_1 => ?_) (fun c_1 => ?_)
  · skip
    refine lv_astore_n (lv' := [(2, .ref aF), (0, .ref a0), (1, .int x0)]) hx hb dX2_play_43 rfl hl (by decide) rfl (fun ls hl => ?_)
    refine lv_aload_n hx hb dX2_play_44 rfl (lv_at hl 0 rfl) ?_
    refine lv_dup hx hb dX2_play_45 rfl ?_
    refine va_get (D := D) (ci := 0) (v := .long vh1) (C := RX0) (T := TX0) (N := 5) hx hb hts inX2_play_X0 hown hK hP 1 rfl rfl 0 (by decide) (hts (.fieldLink RX2 91 "ArchivistTricks$Archivist" "hand" "J") (by decide +kernel)) (fun _ h9 => h9) rfl dX2_play_46 ?_
    refine lv_iload_n hx hb dX2_play_49 rfl (lv_at hl 2 rfl) ?_
    refine jr_callS (n := 1) (As := [.int x0]) (rest := [.long vh1, .ref aF]) S (c_X2_bit x0) gX2_play_X2_bit rfl (by decide +kernel) rfl ⟨⟨rfl, rfl⟩, ⟨Nat.le_of_ble_eq_true rfl, Nat.le_of_ble_eq_true rfl⟩, Nat.le_of_ble_eq_true rfl, Nat.le_of_ble_eq_true rfl⟩ hP hK hN [] [] rfl rfl (lv_nil hl) rfl (Nat.le_of_ble_eq_true rfl) dX2_play_50 ?_
    refine lv_ldc2 (v := (-1)) hx hb hown (hts (.constantLong RX2 98 (-1)) (by decide +kernel)) dX2_play_53 ?_
    refine lv_lxor hx hb dX2_play_56 ?_
    refine lv_land hx hb dX2_play_57 ?_
    refine va_put (D := D) (ci := 0) (v := .long (vh1 &&& ((j_X2_bit x0) ^^^ (-1)))) (ty := .long) (C := RX0) (T := TX0) (N := 5) hx hb hts inX2_play_X0 tyX0 tyX0_ok nmX0 hown hK hP hD hS 1 rfl rfl 0 (by decide) (hts (.fieldLink RX2 91 "ArchivistTricks$Archivist" "hand" "J") (by decide +kernel)) (fun _ h9 => h9) rfl (by decide +kernel) rfl rfl (Nat.le_of_ble_eq_true rfl) dX2_play_58 (fun H locs hP hD hS => ?_)
    have hP : va_P D vwCl [(a0, .inr (2, [.ref aR, .ref aF, .ref aG, .int vdrawn, .int vtr, .int vled, .int vmov, .int vw1, .int vw2, va_rf veo, .int veb])), (aF, .inr (0, [.long (vh1 &&& ((j_X2_bit x0) ^^^ (-1))), .long vt1, .int vp1, .int vk1, .int vg1])), (aG, .inr (0, [.long vh2, .long vt2, .int vp2, .int vk2, .int vg2])), (aR, .inl (cI, 42, .inl vrow))] H := hP
    have hD : va_D A [(a0, .inr (2, [.ref aR, .ref aF, .ref aG, .int vdrawn, .int vtr, .int vled, .int vmov, .int vw1, .int vw2, va_rf veo, .int veb])), (aF, .inr (0, [.long (vh1 &&& ((j_X2_bit x0) ^^^ (-1))), .long vt1, .int vp1, .int vk1, .int vg1])), (aG, .inr (0, [.long vh2, .long vt2, .int vp2, .int vk2, .int vg2])), (aR, .inl (cI, 42, .inl vrow))] := hD
    refine lv_aload_n hx hb dX2_play_61 rfl (lv_at hl 1 rfl) ?_
    refine va_get (D := D) (ci := 2) (v := .int vled) (C := RX2) (T := TX2) (N := 11) hx hb hts inX2_play_X2 hown hK hP 0 rfl rfl 5 (by decide) (hts (.fieldLink RX2 30 "ArchivistTricks" "ledCard" "I") (by decide +kernel)) (fun _ h9 => h9) rfl dX2_play_62 ?_
    refine lv_iconst (v := (-1)) hx hb dX2_play_65 (by decide) ?_
    refine lv_icmp_eq (tgt := 75) hx hb dX2_play_66 (by decide) (fun c_2 => ?_) (fun c_2 => ?_)
    · skip
      refine lv_aload_n hx hb dX2_play_75 rfl (lv_at hl 1 rfl) ?_
      refine lv_iload_n hx hb dX2_play_76 rfl (lv_at hl 2 rfl) ?_
      refine va_put (D := D) (ci := 2) (v := .int x0) (ty := .int) (C := RX2) (T := TX2) (N := 11) hx hb hts inX2_play_X2 tyX2 tyX2_ok nmX2 hown hK hP hD hS 0 rfl rfl 5 (by decide) (hts (.fieldLink RX2 30 "ArchivistTricks" "ledCard" "I") (by decide +kernel)) (fun _ h9 => h9) rfl (by decide +kernel) rfl rfl (Nat.le_of_ble_eq_true rfl) dX2_play_77 (fun H locs hP hD hS => ?_)
      have hP : va_P D vwCl [(a0, .inr (2, [.ref aR, .ref aF, .ref aG, .int vdrawn, .int vtr, .int x0, .int vmov, .int vw1, .int vw2, va_rf veo, .int veb])), (aF, .inr (0, [.long (vh1 &&& ((j_X2_bit x0) ^^^ (-1))), .long vt1, .int vp1, .int vk1, .int vg1])), (aG, .inr (0, [.long vh2, .long vt2, .int vp2, .int vk2, .int vg2])), (aR, .inl (cI, 42, .inl vrow))] H := hP
      have hD : va_D A [(a0, .inr (2, [.ref aR, .ref aF, .ref aG, .int vdrawn, .int vtr, .int x0, .int vmov, .int vw1, .int vw2, va_rf veo, .int veb])), (aF, .inr (0, [.long (vh1 &&& ((j_X2_bit x0) ^^^ (-1))), .long vt1, .int vp1, .int vk1, .int vg1])), (aG, .inr (0, [.long vh2, .long vt2, .int vp2, .int vk2, .int vg2])), (aR, .inl (cI, 42, .inl vrow))] := hD
      refine lv_aload_n hx hb dX2_play_80 rfl (lv_at hl 1 rfl) ?_
      refine lv_iconst (v := 1) hx hb dX2_play_81 (by decide) ?_
      refine lv_aload_n hx hb dX2_play_82 rfl (lv_at hl 1 rfl) ?_
      refine va_get (D := D) (ci := 2) (v := .int vmov) (C := RX2) (T := TX2) (N := 11) hx hb hts inX2_play_X2 hown hK hP 0 rfl rfl 6 (by decide) (hts (.fieldLink RX2 33 "ArchivistTricks" "mover" "I") (by decide +kernel)) (fun _ h9 => h9) rfl dX2_play_83 ?_
      refine lv_isub hx hb dX2_play_86 ?_
      refine va_put (D := D) (ci := 2) (v := .int (1 - vmov)) (ty := .int) (C := RX2) (T := TX2) (N := 11) hx hb hts inX2_play_X2 tyX2 tyX2_ok nmX2 hown hK hP hD hS 0 rfl rfl 6 (by decide) (hts (.fieldLink RX2 33 "ArchivistTricks" "mover" "I") (by decide +kernel)) (fun _ h9 => h9) rfl (by decide +kernel) rfl rfl (Nat.le_of_ble_eq_true rfl) dX2_play_87 (fun H locs hP hD hS => ?_)
      have hP : va_P D vwCl [(a0, .inr (2, [.ref aR, .ref aF, .ref aG, .int vdrawn, .int vtr, .int x0, .int (1 - vmov), .int vw1, .int vw2, va_rf veo, .int veb])), (aF, .inr (0, [.long (vh1 &&& ((j_X2_bit x0) ^^^ (-1))), .long vt1, .int vp1, .int vk1, .int vg1])), (aG, .inr (0, [.long vh2, .long vt2, .int vp2, .int vk2, .int vg2])), (aR, .inl (cI, 42, .inl vrow))] H := hP
      have hD : va_D A [(a0, .inr (2, [.ref aR, .ref aF, .ref aG, .int vdrawn, .int vtr, .int x0, .int (1 - vmov), .int vw1, .int vw2, va_rf veo, .int veb])), (aF, .inr (0, [.long (vh1 &&& ((j_X2_bit x0) ^^^ (-1))), .long vt1, .int vp1, .int vk1, .int vg1])), (aG, .inr (0, [.long vh2, .long vt2, .int vp2, .int vk2, .int vg2])), (aR, .inl (cI, 42, .inl vrow))] := hD
      refine lv_iconst (v := (-1)) hx hb dX2_play_90 (by decide) ?_
      exact jw_iret hx hb hr hlocks hK hP hD hS dX2_play_91 (by  simp only [j_X2_play, if_neg h0, if_pos h1, if_pos c_1, if_pos c_2]) (by  simp only [j_X2_play_vdrawn, j_X2_play_vled, j_X2_play_vmov, j_X2_play_vw1, j_X2_play_vw2, j_X2_play_vh1, j_X2_play_vt1, j_X2_play_vp1, j_X2_play_vk1, j_X2_play_vg1, j_X2_play_vh2, j_X2_play_vt2, j_X2_play_vp2, j_X2_play_vk2, j_X2_play_vg2, if_neg h0, if_pos h1, if_pos c_1, if_pos c_2])
    · skip
      refine lv_aload_n hx hb dX2_play_69 rfl (lv_at hl 1 rfl) ?_
      refine lv_iload_n hx hb dX2_play_70 rfl (lv_at hl 2 rfl) ?_
      refine jw_callVi (n := 1) (C := RX2) (As := [.int x0]) (rest := []) (wr := []) (wn := [(a0, .inr (2, [.ref aR, .ref aF, .ref aG, .int (j_X2_finishTrick_vdrawn vdrawn vtr vled vmov x0), .int vtr, .int j_X2_finishTrick_vled, .int (j_X2_finishTrick_vmov vrow vdrawn vtr vled vmov (vh1 &&& ((j_X2_bit x0) ^^^ (-1))) vh2 x0), .int (j_X2_finishTrick_vw1 vrow vdrawn vtr vled vmov vw1 (vh1 &&& ((j_X2_bit x0) ^^^ (-1))) vp1 vg1 vh2 vp2 vg2 x0), .int (j_X2_finishTrick_vw2 vrow vdrawn vtr vled vmov vw2 (vh1 &&& ((j_X2_bit x0) ^^^ (-1))) vp1 vg1 vh2 vp2 vg2 x0), va_rf veo, .int veb])), (aF, .inr (0, [.long (j_X2_finishTrick_vh1 vrow vdrawn vtr vled vmov (vh1 &&& ((j_X2_bit x0) ^^^ (-1))) x0), .long (j_X2_finishTrick_vt1 vtr vled vmov vt1 x0), .int (j_X2_finishTrick_vp1 vtr vled vmov vp1 vg1 x0), .int (j_X2_finishTrick_vk1 vtr vled vmov vk1 x0), .int (j_X2_finishTrick_vg1 vg1)])), (aG, .inr (0, [.long (j_X2_finishTrick_vh2 vrow vdrawn vtr vled vmov vh2 x0), .long (j_X2_finishTrick_vt2 vtr vled vmov vt2 x0), .int (j_X2_finishTrick_vp2 vtr vled vmov vp2 vg2 x0), .int (j_X2_finishTrick_vk2 vtr vled vmov vk2 x0), .int (j_X2_finishTrick_vg2 vg2)])), (aR, .inl (cI, 42, .inl vrow))]) S (c_X2_finishTrick a0 aR aF aG cI vrow vdrawn vtr vled vmov vw1 vw2 veo veb (vh1 &&& ((j_X2_bit x0) ^^^ (-1))) vt1 vp1 vk1 vg1 vh2 vt2 vp2 vk2 vg2 x0) gX2_play_X2_finishTrick rfl (by decide +kernel) rfl ⟨⟨rfl, rfl⟩, ⟨Nat.le_of_ble_eq_true rfl, Nat.le_of_ble_eq_true rfl⟩, Nat.le_of_ble_eq_true rfl, Nat.le_of_ble_eq_true rfl⟩ hP hK hN hD hS hA [0, 1, 2, 3] [] [0, 1, 2, 3] [0] rfl rfl ⟨rfl, rfl, rfl⟩ (by decide) rfl rfl 0 2 rfl rfl rfl (lv_nil hl) rfl (Nat.le_of_ble_eq_true rfl) dX2_play_71 (fun H locs hP hD hS => ?_)
      exact jw_iret hx hb hr hlocks hK hP hD hS dX2_play_74 (by  simp only [j_X2_play, if_neg h0, if_pos h1, if_pos c_1, if_neg c_2]) (by  simp only [j_X2_play_vdrawn, j_X2_play_vled, j_X2_play_vmov, j_X2_play_vw1, j_X2_play_vw2, j_X2_play_vh1, j_X2_play_vt1, j_X2_play_vp1, j_X2_play_vk1, j_X2_play_vg1, j_X2_play_vh2, j_X2_play_vt2, j_X2_play_vp2, j_X2_play_vk2, j_X2_play_vg2, if_neg h0, if_pos h1, if_pos c_1, if_neg c_2])
  · skip
    refine lv_astore_n (lv' := [(2, .ref aG), (0, .ref a0), (1, .int x0)]) hx hb dX2_play_43 rfl hl (by decide) rfl (fun ls hl => ?_)
    refine lv_aload_n hx hb dX2_play_44 rfl (lv_at hl 0 rfl) ?_
    refine lv_dup hx hb dX2_play_45 rfl ?_
    refine va_get (D := D) (ci := 0) (v := .long vh2) (C := RX0) (T := TX0) (N := 5) hx hb hts inX2_play_X0 hown hK hP 2 rfl rfl 0 (by decide) (hts (.fieldLink RX2 91 "ArchivistTricks$Archivist" "hand" "J") (by decide +kernel)) (fun _ h9 => h9) rfl dX2_play_46 ?_
    refine lv_iload_n hx hb dX2_play_49 rfl (lv_at hl 2 rfl) ?_
    refine jr_callS (n := 1) (As := [.int x0]) (rest := [.long vh2, .ref aG]) S (c_X2_bit x0) gX2_play_X2_bit rfl (by decide +kernel) rfl ⟨⟨rfl, rfl⟩, ⟨Nat.le_of_ble_eq_true rfl, Nat.le_of_ble_eq_true rfl⟩, Nat.le_of_ble_eq_true rfl, Nat.le_of_ble_eq_true rfl⟩ hP hK hN [] [] rfl rfl (lv_nil hl) rfl (Nat.le_of_ble_eq_true rfl) dX2_play_50 ?_
    refine lv_ldc2 (v := (-1)) hx hb hown (hts (.constantLong RX2 98 (-1)) (by decide +kernel)) dX2_play_53 ?_
    refine lv_lxor hx hb dX2_play_56 ?_
    refine lv_land hx hb dX2_play_57 ?_
    refine va_put (D := D) (ci := 0) (v := .long (vh2 &&& ((j_X2_bit x0) ^^^ (-1)))) (ty := .long) (C := RX0) (T := TX0) (N := 5) hx hb hts inX2_play_X0 tyX0 tyX0_ok nmX0 hown hK hP hD hS 2 rfl rfl 0 (by decide) (hts (.fieldLink RX2 91 "ArchivistTricks$Archivist" "hand" "J") (by decide +kernel)) (fun _ h9 => h9) rfl (by decide +kernel) rfl rfl (Nat.le_of_ble_eq_true rfl) dX2_play_58 (fun H locs hP hD hS => ?_)
    have hP : va_P D vwCl [(a0, .inr (2, [.ref aR, .ref aF, .ref aG, .int vdrawn, .int vtr, .int vled, .int vmov, .int vw1, .int vw2, va_rf veo, .int veb])), (aF, .inr (0, [.long vh1, .long vt1, .int vp1, .int vk1, .int vg1])), (aG, .inr (0, [.long (vh2 &&& ((j_X2_bit x0) ^^^ (-1))), .long vt2, .int vp2, .int vk2, .int vg2])), (aR, .inl (cI, 42, .inl vrow))] H := hP
    have hD : va_D A [(a0, .inr (2, [.ref aR, .ref aF, .ref aG, .int vdrawn, .int vtr, .int vled, .int vmov, .int vw1, .int vw2, va_rf veo, .int veb])), (aF, .inr (0, [.long vh1, .long vt1, .int vp1, .int vk1, .int vg1])), (aG, .inr (0, [.long (vh2 &&& ((j_X2_bit x0) ^^^ (-1))), .long vt2, .int vp2, .int vk2, .int vg2])), (aR, .inl (cI, 42, .inl vrow))] := hD
    refine lv_aload_n hx hb dX2_play_61 rfl (lv_at hl 1 rfl) ?_
    refine va_get (D := D) (ci := 2) (v := .int vled) (C := RX2) (T := TX2) (N := 11) hx hb hts inX2_play_X2 hown hK hP 0 rfl rfl 5 (by decide) (hts (.fieldLink RX2 30 "ArchivistTricks" "ledCard" "I") (by decide +kernel)) (fun _ h9 => h9) rfl dX2_play_62 ?_
    refine lv_iconst (v := (-1)) hx hb dX2_play_65 (by decide) ?_
    refine lv_icmp_eq (tgt := 75) hx hb dX2_play_66 (by decide) (fun c_3 => ?_) (fun c_3 => ?_)
    · skip
      refine lv_aload_n hx hb dX2_play_75 rfl (lv_at hl 1 rfl) ?_
      refine lv_iload_n hx hb dX2_play_76 rfl (lv_at hl 2 rfl) ?_
      refine va_put (D := D) (ci := 2) (v := .int x0) (ty := .int) (C := RX2) (T := TX2) (N := 11) hx hb hts inX2_play_X2 tyX2 tyX2_ok nmX2 hown hK hP hD hS 0 rfl rfl 5 (by decide) (hts (.fieldLink RX2 30 "ArchivistTricks" "ledCard" "I") (by decide +kernel)) (fun _ h9 => h9) rfl (by decide +kernel) rfl rfl (Nat.le_of_ble_eq_true rfl) dX2_play_77 (fun H locs hP hD hS => ?_)
      have hP : va_P D vwCl [(a0, .inr (2, [.ref aR, .ref aF, .ref aG, .int vdrawn, .int vtr, .int x0, .int vmov, .int vw1, .int vw2, va_rf veo, .int veb])), (aF, .inr (0, [.long vh1, .long vt1, .int vp1, .int vk1, .int vg1])), (aG, .inr (0, [.long (vh2 &&& ((j_X2_bit x0) ^^^ (-1))), .long vt2, .int vp2, .int vk2, .int vg2])), (aR, .inl (cI, 42, .inl vrow))] H := hP
      have hD : va_D A [(a0, .inr (2, [.ref aR, .ref aF, .ref aG, .int vdrawn, .int vtr, .int x0, .int vmov, .int vw1, .int vw2, va_rf veo, .int veb])), (aF, .inr (0, [.long vh1, .long vt1, .int vp1, .int vk1, .int vg1])), (aG, .inr (0, [.long (vh2 &&& ((j_X2_bit x0) ^^^ (-1))), .long vt2, .int vp2, .int vk2, .int vg2])), (aR, .inl (cI, 42, .inl vrow))] := hD
      refine lv_aload_n hx hb dX2_play_80 rfl (lv_at hl 1 rfl) ?_
      refine lv_iconst (v := 1) hx hb dX2_play_81 (by decide) ?_
      refine lv_aload_n hx hb dX2_play_82 rfl (lv_at hl 1 rfl) ?_
      refine va_get (D := D) (ci := 2) (v := .int vmov) (C := RX2) (T := TX2) (N := 11) hx hb hts inX2_play_X2 hown hK hP 0 rfl rfl 6 (by decide) (hts (.fieldLink RX2 33 "ArchivistTricks" "mover" "I") (by decide +kernel)) (fun _ h9 => h9) rfl dX2_play_83 ?_
      refine lv_isub hx hb dX2_play_86 ?_
      refine va_put (D := D) (ci := 2) (v := .int (1 - vmov)) (ty := .int) (C := RX2) (T := TX2) (N := 11) hx hb hts inX2_play_X2 tyX2 tyX2_ok nmX2 hown hK hP hD hS 0 rfl rfl 6 (by decide) (hts (.fieldLink RX2 33 "ArchivistTricks" "mover" "I") (by decide +kernel)) (fun _ h9 => h9) rfl (by decide +kernel) rfl rfl (Nat.le_of_ble_eq_true rfl) dX2_play_87 (fun H locs hP hD hS => ?_)
      have hP : va_P D vwCl [(a0, .inr (2, [.ref aR, .ref aF, .ref aG, .int vdrawn, .int vtr, .int x0, .int (1 - vmov), .int vw1, .int vw2, va_rf veo, .int veb])), (aF, .inr (0, [.long vh1, .long vt1, .int vp1, .int vk1, .int vg1])), (aG, .inr (0, [.long (vh2 &&& ((j_X2_bit x0) ^^^ (-1))), .long vt2, .int vp2, .int vk2, .int vg2])), (aR, .inl (cI, 42, .inl vrow))] H := hP
      have hD : va_D A [(a0, .inr (2, [.ref aR, .ref aF, .ref aG, .int vdrawn, .int vtr, .int x0, .int (1 - vmov), .int vw1, .int vw2, va_rf veo, .int veb])), (aF, .inr (0, [.long vh1, .long vt1, .int vp1, .int vk1, .int vg1])), (aG, .inr (0, [.long (vh2 &&& ((j_X2_bit x0) ^^^ (-1))), .long vt2, .int vp2, .int vk2, .int vg2])), (aR, .inl (cI, 42, .inl vrow))] := hD
      refine lv_iconst (v := (-1)) hx hb dX2_play_90 (by decide) ?_
      exact jw_iret hx hb hr hlocks hK hP hD hS dX2_play_91 (by  simp only [j_X2_play, if_neg h0, if_pos h1, if_neg c_1, if_pos c_3]) (by  simp only [j_X2_play_vdrawn, j_X2_play_vled, j_X2_play_vmov, j_X2_play_vw1, j_X2_play_vw2, j_X2_play_vh1, j_X2_play_vt1, j_X2_play_vp1, j_X2_play_vk1, j_X2_play_vg1, j_X2_play_vh2, j_X2_play_vt2, j_X2_play_vp2, j_X2_play_vk2, j_X2_play_vg2, if_neg h0, if_pos h1, if_neg c_1, if_pos c_3])
    · skip
      refine lv_aload_n hx hb dX2_play_69 rfl (lv_at hl 1 rfl) ?_
      refine lv_iload_n hx hb dX2_play_70 rfl (lv_at hl 2 rfl) ?_
      refine jw_callVi (n := 1) (C := RX2) (As := [.int x0]) (rest := []) (wr := []) (wn := [(a0, .inr (2, [.ref aR, .ref aF, .ref aG, .int (j_X2_finishTrick_vdrawn vdrawn vtr vled vmov x0), .int vtr, .int j_X2_finishTrick_vled, .int (j_X2_finishTrick_vmov vrow vdrawn vtr vled vmov vh1 (vh2 &&& ((j_X2_bit x0) ^^^ (-1))) x0), .int (j_X2_finishTrick_vw1 vrow vdrawn vtr vled vmov vw1 vh1 vp1 vg1 (vh2 &&& ((j_X2_bit x0) ^^^ (-1))) vp2 vg2 x0), .int (j_X2_finishTrick_vw2 vrow vdrawn vtr vled vmov vw2 vh1 vp1 vg1 (vh2 &&& ((j_X2_bit x0) ^^^ (-1))) vp2 vg2 x0), va_rf veo, .int veb])), (aF, .inr (0, [.long (j_X2_finishTrick_vh1 vrow vdrawn vtr vled vmov vh1 x0), .long (j_X2_finishTrick_vt1 vtr vled vmov vt1 x0), .int (j_X2_finishTrick_vp1 vtr vled vmov vp1 vg1 x0), .int (j_X2_finishTrick_vk1 vtr vled vmov vk1 x0), .int (j_X2_finishTrick_vg1 vg1)])), (aG, .inr (0, [.long (j_X2_finishTrick_vh2 vrow vdrawn vtr vled vmov (vh2 &&& ((j_X2_bit x0) ^^^ (-1))) x0), .long (j_X2_finishTrick_vt2 vtr vled vmov vt2 x0), .int (j_X2_finishTrick_vp2 vtr vled vmov vp2 vg2 x0), .int (j_X2_finishTrick_vk2 vtr vled vmov vk2 x0), .int (j_X2_finishTrick_vg2 vg2)])), (aR, .inl (cI, 42, .inl vrow))]) S (c_X2_finishTrick a0 aR aF aG cI vrow vdrawn vtr vled vmov vw1 vw2 veo veb vh1 vt1 vp1 vk1 vg1 (vh2 &&& ((j_X2_bit x0) ^^^ (-1))) vt2 vp2 vk2 vg2 x0) gX2_play_X2_finishTrick rfl (by decide +kernel) rfl ⟨⟨rfl, rfl⟩, ⟨Nat.le_of_ble_eq_true rfl, Nat.le_of_ble_eq_true rfl⟩, Nat.le_of_ble_eq_true rfl, Nat.le_of_ble_eq_true rfl⟩ hP hK hN hD hS hA [0, 1, 2, 3] [] [0, 1, 2, 3] [0] rfl rfl ⟨rfl, rfl, rfl⟩ (by decide) rfl rfl 0 2 rfl rfl rfl (lv_nil hl) rfl (Nat.le_of_ble_eq_true rfl) dX2_play_71 (fun H locs hP hD hS => ?_)
      exact jw_iret hx hb hr hlocks hK hP hD hS dX2_play_74 (by  simp only [j_X2_play, if_neg h0, if_pos h1, if_neg c_1, if_neg c_3]) (by  simp only [j_X2_play_vdrawn, j_X2_play_vled, j_X2_play_vmov, j_X2_play_vw1, j_X2_play_vw2, j_X2_play_vh1, j_X2_play_vt1, j_X2_play_vp1, j_X2_play_vk1, j_X2_play_vg1, j_X2_play_vh2, j_X2_play_vt2, j_X2_play_vp2, j_X2_play_vk2, j_X2_play_vg2, if_neg h0, if_pos h1, if_neg c_1, if_neg c_3])

abbrev rX2_putOnGloves_F : Room := { frames := 1, cells := 0, slots := 0, locals := 21 }
def j_X2_putOnGloves_F (vmov : Int32) : Int32 := vmov
def j_X2_putOnGloves_F_vg1  : Int32 := 1
theorem inX2_putOnGloves_F_X0 : ∀ w ∈ u_ws RX0 TX0 5, w ∈ wsX2_putOnGloves := by decide +kernel
theorem inX2_putOnGloves_F_X2 : ∀ w ∈ u_ws RX2 TX2 11, w ∈ wsX2_putOnGloves := by decide +kernel
set_option maxRecDepth 100000 in
set_option maxHeartbeats 8000000 in
theorem c_X2_putOnGloves_F {l : Launch} {D : va_G} (a0 : Nat) (aR : Nat) (aF : Nat) (aG : Nat) (cI : ClassId) (vrow : Nat → Int32) (vdrawn : Int32) (vtr : Int32) (vled : Int32) (vmov : Int32) (vw1 : Int32) (vw2 : Int32) (veo : Option Nat) (veb : Int32) (vh1 : Int64) (vt1 : Int64) (vp1 : Int32) (vk1 : Int32) (vg1 : Int32) (vh2 : Int64) (vt2 : Int64) (vp2 : Int32) (vk2 : Int32) (vg2 : Int32) (h0 : ¬ (vmov = (-1))) (h1 : vmov = 0) (h2 : vg1 = 0) : jWi l yX2_putOnGloves wsX2_putOnGloves rX2_putOnGloves_F D [.ref a0] (jC a0 aR aF aG cI vrow vdrawn vtr vled vmov vw1 vw2 veo veb vh1 vt1 vp1 vk1 vg1 vh2 vt2 vp2 vk2 vg2) [(cI, .int)] (j_X2_putOnGloves_F vmov) (jC a0 aR aF aG cI vrow vdrawn vtr vled vmov vw1 vw2 veo veb vh1 vt1 vp1 vk1 (j_X2_putOnGloves_F_vg1) vh2 vt2 vp2 vk2 vg2) := by
  refine jW_of (QQ := fun A => (jQi D (j_X2_putOnGloves_F vmov) (jC a0 aR aF aG cI vrow vdrawn vtr vled vmov vw1 vw2 veo veb vh1 vt1 vp1 vk1 (j_X2_putOnGloves_F_vg1) vh2 vt2 vp2 vk2 vg2) [(cI, .int)] A)) (cc := cX2_putOnGloves) (maxL := 2) (ret := (some .int)) (by decide) rfl (Nat.le_of_ble_eq_true rfl) ?_
  intro p e s m below meth c ls A S hr hlocks hini hP hK hN hD hS hA hl
  obtain ⟨hx, hb, hml, hown, hts⟩ := id S
  have hl : lv_has ls 2 [(0, .ref a0)] := hl
  refine lv_aload_n hx hb dX2_putOnGloves_0 rfl (lv_at hl 0 rfl) ?_
  refine va_get (D := D) (ci := 2) (v := .int vmov) (C := RX2) (T := TX2) (N := 11) hx hb hts inX2_putOnGloves_F_X2 hown hK hP 0 rfl rfl 6 (by decide) (hts (.fieldLink RX2 33 "ArchivistTricks" "mover" "I") (by decide +kernel)) (fun _ h9 => h9) rfl dX2_putOnGloves_1 ?_
  refine lv_iconst (v := (-1)) hx hb dX2_putOnGloves_4 (by decide) ?_
  refine lv_icmp_ne (tgt := 18) hx hb dX2_putOnGloves_5 (by decide) (fun _ => ?_) (fun c_ => absurd c_ h0)
  refine lv_aload_n hx hb dX2_putOnGloves_18 rfl (lv_at hl 0 rfl) ?_
  refine lv_aload_n hx hb dX2_putOnGloves_19 rfl (lv_at hl 0 rfl) ?_
  refine va_get (D := D) (ci := 2) (v := .int vmov) (C := RX2) (T := TX2) (N := 11) hx hb hts inX2_putOnGloves_F_X2 hown hK hP 0 rfl rfl 6 (by decide) (hts (.fieldLink RX2 33 "ArchivistTricks" "mover" "I") (by decide +kernel)) (fun _ h9 => h9) rfl dX2_putOnGloves_20 ?_
  refine jr_callV (n := 1) (C := RX2) (As := [.int vmov]) (rest := []) S (c_X2_archivist a0 aR aF aG cI vrow vdrawn vtr vled vmov vw1 vw2 veo veb vh1 vt1 vp1 vk1 vg1 vh2 vt2 vp2 vk2 vg2 vmov) gX2_putOnGloves_X2_archivist rfl (by decide +kernel) rfl ⟨⟨rfl, rfl⟩, ⟨Nat.le_of_ble_eq_true rfl, Nat.le_of_ble_eq_true rfl⟩, Nat.le_of_ble_eq_true rfl, Nat.le_of_ble_eq_true rfl⟩ hP hK hN [0, 1, 2, 3] [0] rfl rfl 0 2 rfl rfl rfl (lv_nil hl) rfl (Nat.le_of_ble_eq_true rfl) dX2_putOnGloves_23 ?_
  refine jr_iteT (c0 := vmov = 0) (a := aF) (b := aG) h1 rfl ?_
  refine lv_astore_n (lv' := [(1, .ref aF), (0, .ref a0)]) hx hb dX2_putOnGloves_26 rfl hl (by decide) rfl (fun ls hl => ?_)
  refine lv_aload_n hx hb dX2_putOnGloves_27 rfl (lv_at hl 0 rfl) ?_
  refine va_get (D := D) (ci := 0) (v := .int vg1) (C := RX0) (T := TX0) (N := 5) hx hb hts inX2_putOnGloves_F_X0 hown hK hP 1 rfl rfl 4 (by decide) (hts (.fieldLink RX2 105 "ArchivistTricks$Archivist" "gloves" "I") (by decide +kernel)) (fun _ h9 => h9) rfl dX2_putOnGloves_28 ?_
  refine lv_if_eq (tgt := 44) hx hb dX2_putOnGloves_31 (by decide) (fun _ => ?_) (fun c_ => absurd h2 c_)
  refine lv_aload_n hx hb dX2_putOnGloves_44 rfl (lv_at hl 0 rfl) ?_
  refine lv_iconst (v := 1) hx hb dX2_putOnGloves_45 (by decide) ?_
  refine va_put (D := D) (ci := 0) (v := .int 1) (ty := .int) (C := RX0) (T := TX0) (N := 5) hx hb hts inX2_putOnGloves_F_X0 tyX0 tyX0_ok nmX0 hown hK hP hD hS 1 rfl rfl 4 (by decide) (hts (.fieldLink RX2 105 "ArchivistTricks$Archivist" "gloves" "I") (by decide +kernel)) (fun _ h9 => h9) rfl (by decide +kernel) rfl rfl (Nat.le_of_ble_eq_true rfl) dX2_putOnGloves_46 (fun H locs hP hD hS => ?_)
  have hP : va_P D vwCl [(a0, .inr (2, [.ref aR, .ref aF, .ref aG, .int vdrawn, .int vtr, .int vled, .int vmov, .int vw1, .int vw2, va_rf veo, .int veb])), (aF, .inr (0, [.long vh1, .long vt1, .int vp1, .int vk1, .int 1])), (aG, .inr (0, [.long vh2, .long vt2, .int vp2, .int vk2, .int vg2])), (aR, .inl (cI, 42, .inl vrow))] H := hP
  have hD : va_D A [(a0, .inr (2, [.ref aR, .ref aF, .ref aG, .int vdrawn, .int vtr, .int vled, .int vmov, .int vw1, .int vw2, va_rf veo, .int veb])), (aF, .inr (0, [.long vh1, .long vt1, .int vp1, .int vk1, .int 1])), (aG, .inr (0, [.long vh2, .long vt2, .int vp2, .int vk2, .int vg2])), (aR, .inl (cI, 42, .inl vrow))] := hD
  refine lv_aload_n hx hb dX2_putOnGloves_49 rfl (lv_at hl 1 rfl) ?_
  refine va_get (D := D) (ci := 2) (v := .int vmov) (C := RX2) (T := TX2) (N := 11) hx hb hts inX2_putOnGloves_F_X2 hown hK hP 0 rfl rfl 6 (by decide) (hts (.fieldLink RX2 33 "ArchivistTricks" "mover" "I") (by decide +kernel)) (fun _ h9 => h9) rfl dX2_putOnGloves_50 ?_
  exact jw_iret hx hb hr hlocks hK hP hD hS dX2_putOnGloves_53 (by  simp only [j_X2_putOnGloves_F, if_neg h0, if_pos h1, if_pos h2]) (by  simp only [j_X2_putOnGloves_F_vg1, if_neg h0, if_pos h1, if_pos h2])

abbrev rX2_putOnGloves_G : Room := { frames := 1, cells := 0, slots := 0, locals := 21 }
def j_X2_putOnGloves_G (vmov : Int32) : Int32 := vmov
def j_X2_putOnGloves_G_vg2  : Int32 := 1
theorem inX2_putOnGloves_G_X0 : ∀ w ∈ u_ws RX0 TX0 5, w ∈ wsX2_putOnGloves := by decide +kernel
theorem inX2_putOnGloves_G_X2 : ∀ w ∈ u_ws RX2 TX2 11, w ∈ wsX2_putOnGloves := by decide +kernel
set_option maxRecDepth 100000 in
set_option maxHeartbeats 8000000 in
theorem c_X2_putOnGloves_G {l : Launch} {D : va_G} (a0 : Nat) (aR : Nat) (aF : Nat) (aG : Nat) (cI : ClassId) (vrow : Nat → Int32) (vdrawn : Int32) (vtr : Int32) (vled : Int32) (vmov : Int32) (vw1 : Int32) (vw2 : Int32) (veo : Option Nat) (veb : Int32) (vh1 : Int64) (vt1 : Int64) (vp1 : Int32) (vk1 : Int32) (vg1 : Int32) (vh2 : Int64) (vt2 : Int64) (vp2 : Int32) (vk2 : Int32) (vg2 : Int32) (h0 : ¬ (vmov = (-1))) (h1 : ¬ (vmov = 0)) (h2 : vg2 = 0) : jWi l yX2_putOnGloves wsX2_putOnGloves rX2_putOnGloves_G D [.ref a0] (jC a0 aR aF aG cI vrow vdrawn vtr vled vmov vw1 vw2 veo veb vh1 vt1 vp1 vk1 vg1 vh2 vt2 vp2 vk2 vg2) [(cI, .int)] (j_X2_putOnGloves_G vmov) (jC a0 aR aF aG cI vrow vdrawn vtr vled vmov vw1 vw2 veo veb vh1 vt1 vp1 vk1 vg1 vh2 vt2 vp2 vk2 (j_X2_putOnGloves_G_vg2)) := by
  refine jW_of (QQ := fun A => (jQi D (j_X2_putOnGloves_G vmov) (jC a0 aR aF aG cI vrow vdrawn vtr vled vmov vw1 vw2 veo veb vh1 vt1 vp1 vk1 vg1 vh2 vt2 vp2 vk2 (j_X2_putOnGloves_G_vg2)) [(cI, .int)] A)) (cc := cX2_putOnGloves) (maxL := 2) (ret := (some .int)) (by decide) rfl (Nat.le_of_ble_eq_true rfl) ?_
  intro p e s m below meth c ls A S hr hlocks hini hP hK hN hD hS hA hl
  obtain ⟨hx, hb, hml, hown, hts⟩ := id S
  have hl : lv_has ls 2 [(0, .ref a0)] := hl
  refine lv_aload_n hx hb dX2_putOnGloves_0 rfl (lv_at hl 0 rfl) ?_
  refine va_get (D := D) (ci := 2) (v := .int vmov) (C := RX2) (T := TX2) (N := 11) hx hb hts inX2_putOnGloves_G_X2 hown hK hP 0 rfl rfl 6 (by decide) (hts (.fieldLink RX2 33 "ArchivistTricks" "mover" "I") (by decide +kernel)) (fun _ h9 => h9) rfl dX2_putOnGloves_1 ?_
  refine lv_iconst (v := (-1)) hx hb dX2_putOnGloves_4 (by decide) ?_
  refine lv_icmp_ne (tgt := 18) hx hb dX2_putOnGloves_5 (by decide) (fun _ => ?_) (fun c_ => absurd c_ h0)
  refine lv_aload_n hx hb dX2_putOnGloves_18 rfl (lv_at hl 0 rfl) ?_
  refine lv_aload_n hx hb dX2_putOnGloves_19 rfl (lv_at hl 0 rfl) ?_
  refine va_get (D := D) (ci := 2) (v := .int vmov) (C := RX2) (T := TX2) (N := 11) hx hb hts inX2_putOnGloves_G_X2 hown hK hP 0 rfl rfl 6 (by decide) (hts (.fieldLink RX2 33 "ArchivistTricks" "mover" "I") (by decide +kernel)) (fun _ h9 => h9) rfl dX2_putOnGloves_20 ?_
  refine jr_callV (n := 1) (C := RX2) (As := [.int vmov]) (rest := []) S (c_X2_archivist a0 aR aF aG cI vrow vdrawn vtr vled vmov vw1 vw2 veo veb vh1 vt1 vp1 vk1 vg1 vh2 vt2 vp2 vk2 vg2 vmov) gX2_putOnGloves_X2_archivist rfl (by decide +kernel) rfl ⟨⟨rfl, rfl⟩, ⟨Nat.le_of_ble_eq_true rfl, Nat.le_of_ble_eq_true rfl⟩, Nat.le_of_ble_eq_true rfl, Nat.le_of_ble_eq_true rfl⟩ hP hK hN [0, 1, 2, 3] [0] rfl rfl 0 2 rfl rfl rfl (lv_nil hl) rfl (Nat.le_of_ble_eq_true rfl) dX2_putOnGloves_23 ?_
  refine jr_iteF (c0 := vmov = 0) (a := aF) (b := aG) h1 rfl ?_
  refine lv_astore_n (lv' := [(1, .ref aG), (0, .ref a0)]) hx hb dX2_putOnGloves_26 rfl hl (by decide) rfl (fun ls hl => ?_)
  refine lv_aload_n hx hb dX2_putOnGloves_27 rfl (lv_at hl 0 rfl) ?_
  refine va_get (D := D) (ci := 0) (v := .int vg2) (C := RX0) (T := TX0) (N := 5) hx hb hts inX2_putOnGloves_G_X0 hown hK hP 2 rfl rfl 4 (by decide) (hts (.fieldLink RX2 105 "ArchivistTricks$Archivist" "gloves" "I") (by decide +kernel)) (fun _ h9 => h9) rfl dX2_putOnGloves_28 ?_
  refine lv_if_eq (tgt := 44) hx hb dX2_putOnGloves_31 (by decide) (fun _ => ?_) (fun c_ => absurd h2 c_)
  refine lv_aload_n hx hb dX2_putOnGloves_44 rfl (lv_at hl 0 rfl) ?_
  refine lv_iconst (v := 1) hx hb dX2_putOnGloves_45 (by decide) ?_
  refine va_put (D := D) (ci := 0) (v := .int 1) (ty := .int) (C := RX0) (T := TX0) (N := 5) hx hb hts inX2_putOnGloves_G_X0 tyX0 tyX0_ok nmX0 hown hK hP hD hS 2 rfl rfl 4 (by decide) (hts (.fieldLink RX2 105 "ArchivistTricks$Archivist" "gloves" "I") (by decide +kernel)) (fun _ h9 => h9) rfl (by decide +kernel) rfl rfl (Nat.le_of_ble_eq_true rfl) dX2_putOnGloves_46 (fun H locs hP hD hS => ?_)
  have hP : va_P D vwCl [(a0, .inr (2, [.ref aR, .ref aF, .ref aG, .int vdrawn, .int vtr, .int vled, .int vmov, .int vw1, .int vw2, va_rf veo, .int veb])), (aF, .inr (0, [.long vh1, .long vt1, .int vp1, .int vk1, .int vg1])), (aG, .inr (0, [.long vh2, .long vt2, .int vp2, .int vk2, .int 1])), (aR, .inl (cI, 42, .inl vrow))] H := hP
  have hD : va_D A [(a0, .inr (2, [.ref aR, .ref aF, .ref aG, .int vdrawn, .int vtr, .int vled, .int vmov, .int vw1, .int vw2, va_rf veo, .int veb])), (aF, .inr (0, [.long vh1, .long vt1, .int vp1, .int vk1, .int vg1])), (aG, .inr (0, [.long vh2, .long vt2, .int vp2, .int vk2, .int 1])), (aR, .inl (cI, 42, .inl vrow))] := hD
  refine lv_aload_n hx hb dX2_putOnGloves_49 rfl (lv_at hl 1 rfl) ?_
  refine va_get (D := D) (ci := 2) (v := .int vmov) (C := RX2) (T := TX2) (N := 11) hx hb hts inX2_putOnGloves_G_X2 hown hK hP 0 rfl rfl 6 (by decide) (hts (.fieldLink RX2 33 "ArchivistTricks" "mover" "I") (by decide +kernel)) (fun _ h9 => h9) rfl dX2_putOnGloves_50 ?_
  exact jw_iret hx hb hr hlocks hK hP hD hS dX2_putOnGloves_53 (by  simp only [j_X2_putOnGloves_G, if_neg h0, if_neg h1, if_pos h2]) (by  simp only [j_X2_putOnGloves_G_vg2, if_neg h0, if_neg h1, if_pos h2])
end
section
theorem dL_drawn_0 : decode cL_drawn 0 = .ok (.iload_n 1, 1) := by decide +kernel
theorem dL_drawn_1 : decode cL_drawn 1 = .ok (.aload_n 0, 1) := by decide +kernel
theorem dL_drawn_2 : decode cL_drawn 2 = .ok (.arraylength, 1) := by decide +kernel
theorem dL_drawn_3 : decode cL_drawn 3 = .ok (.if_icmp .ge 9, 3) := by decide +kernel
theorem dL_drawn_6 : decode cL_drawn 6 = .ok (.aload_n 0, 1) := by decide +kernel
theorem dL_drawn_7 : decode cL_drawn 7 = .ok (.iload_n 1, 1) := by decide +kernel
theorem dL_drawn_8 : decode cL_drawn 8 = .ok (.iaload, 1) := by decide +kernel
theorem dL_drawn_9 : decode cL_drawn 9 = .ok (.goto 11, 3) := by decide +kernel
theorem dL_drawn_12 : decode cL_drawn 12 = .ok (.ldc 7, 2) := by decide +kernel
theorem dL_drawn_14 : decode cL_drawn 14 = .ok (.iload_n 1, 1) := by decide +kernel
theorem dL_drawn_15 : decode cL_drawn 15 = .ok (.imul, 1) := by decide +kernel
theorem dL_drawn_16 : decode cL_drawn 16 = .ok (.sipush 17393, 3) := by decide +kernel
theorem dL_drawn_19 : decode cL_drawn 19 = .ok (.iadd, 1) := by decide +kernel
theorem dL_drawn_20 : decode cL_drawn 20 = .ok (.istore_n 3, 1) := by decide +kernel
theorem dL_drawn_21 : decode cL_drawn 21 = .ok (.iload_n 3, 1) := by decide +kernel
theorem dL_drawn_22 : decode cL_drawn 22 = .ok (.iconst 1, 1) := by decide +kernel
theorem dL_drawn_23 : decode cL_drawn 23 = .ok (.iushr, 1) := by decide +kernel
theorem dL_drawn_24 : decode cL_drawn 24 = .ok (.iload_n 2, 1) := by decide +kernel
theorem dL_drawn_25 : decode cL_drawn 25 = .ok (.irem, 1) := by decide +kernel
theorem dL_drawn_26 : decode cL_drawn 26 = .ok (.ireturn, 1) := by decide +kernel
theorem dL_worth_0 : decode cL_worth 0 = .ok (.iload_n 0, 1) := by decide +kernel
theorem dL_worth_1 : decode cL_worth 1 = .ok (.bipush 40, 2) := by decide +kernel
theorem dL_worth_3 : decode cL_worth 3 = .ok (.if_icmp .ge 13, 3) := by decide +kernel
theorem dL_worth_6 : decode cL_worth 6 = .ok (.bipush 10, 2) := by decide +kernel
theorem dL_worth_8 : decode cL_worth 8 = .ok (.iload_n 0, 1) := by decide +kernel
theorem dL_worth_9 : decode cL_worth 9 = .ok (.bipush 10, 2) := by decide +kernel
theorem dL_worth_11 : decode cL_worth 11 = .ok (.irem, 1) := by decide +kernel
theorem dL_worth_12 : decode cL_worth 12 = .ok (.isub, 1) := by decide +kernel
theorem dL_worth_13 : decode cL_worth 13 = .ok (.goto 5, 3) := by decide +kernel
theorem dL_worth_16 : decode cL_worth 16 = .ok (.bipush (-5), 2) := by decide +kernel
theorem dL_worth_18 : decode cL_worth 18 = .ok (.ireturn, 1) := by decide +kernel
set_option maxRecDepth 20000 in
theorem ggL_isLaidRight_X2_placeOf : GoodIn wsL_isLaidRight wsX2_placeOf := goodIn_ca (goodIn_r _ [5, 6, 7, 8, 9, 10, 11, 12, 13, 14, 15, 4, 16, 17, 18, 19, 72, 73, 74, 75, 76, 77, 78, 79, 80, 81, 82, 83, 84, 85, 86, 87] (by decide +kernel) (by decide +kernel)) (goodIn_sub (fun _ h => List.mem_cons_of_mem _ (List.mem_append_left _ (List.mem_append_right _ h))) (by decide +kernel))
set_option maxRecDepth 20000 in
theorem gL_isLaidRight_X2_placeOf : GoodIn wsL_isLaidRight (wsV RL 8 RX2 yX2_placeOf wsX2_placeOf) := goodIn_app (goodIn_of _ (by decide +kernel)) ggL_isLaidRight_X2_placeOf
set_option maxRecDepth 20000 in
theorem ggL_isLaidRight_L_worth : GoodIn wsL_isLaidRight wsL_worth := goodIn_r _ [23] (by decide +kernel) (by decide +kernel)
set_option maxRecDepth 20000 in
theorem gL_isLaidRight_L_worth : GoodIn wsL_isLaidRight (va_wsS RL 14 yL_worth wsL_worth) := goodIn_app (goodIn_of _ (by decide +kernel)) ggL_isLaidRight_L_worth
set_option maxRecDepth 20000 in
theorem ggL_isLaidRight_X2_led : GoodIn wsL_isLaidRight wsX2_led := goodIn_r _ [27, 13, 72, 73, 74, 75, 76, 77, 78, 79, 80, 81, 82] (by decide +kernel) (by decide +kernel)
set_option maxRecDepth 20000 in
theorem gL_isLaidRight_X2_led : GoodIn wsL_isLaidRight (wsV RL 19 RX2 yX2_led wsX2_led) := goodIn_app (goodIn_of _ (by decide +kernel)) ggL_isLaidRight_X2_led
set_option maxRecDepth 20000 in
theorem ggL_isLaidRight_X2_cards : GoodIn wsL_isLaidRight wsX2_cards := goodIn_ca (goodIn_r _ [31, 32, 33, 10, 34, 35, 4, 36, 37, 38, 39, 40, 9, 11, 41, 42, 43, 44, 45, 46, 47, 83, 84, 85, 86, 87, 72, 73, 74, 75, 76, 77, 78, 79, 80, 81, 82] (by decide +kernel) (by decide +kernel)) (goodIn_sub (fun _ h => List.mem_cons_of_mem _ (List.mem_append_right _ h)) (by decide +kernel))
set_option maxRecDepth 20000 in
theorem gL_isLaidRight_X2_cards : GoodIn wsL_isLaidRight (wsV RL 23 RX2 yX2_cards wsX2_cards) := goodIn_app (goodIn_of _ (by decide +kernel)) ggL_isLaidRight_X2_cards
set_option maxRecDepth 20000 in
theorem ggL_isLaidRight_X2_pile : GoodIn wsL_isLaidRight wsX2_pile := goodIn_r _ [51, 52, 72, 73, 74, 75, 76, 77, 78, 79, 80, 81, 82] (by decide +kernel) (by decide +kernel)
set_option maxRecDepth 20000 in
theorem gL_isLaidRight_X2_pile : GoodIn wsL_isLaidRight (wsV RL 26 RX2 yX2_pile wsX2_pile) := goodIn_app (goodIn_of _ (by decide +kernel)) ggL_isLaidRight_X2_pile
set_option maxRecDepth 20000 in
theorem ggL_isLaidRight_X2_tricks : GoodIn wsL_isLaidRight wsX2_tricks := goodIn_ca (goodIn_r _ [56, 32, 33, 57, 34, 35, 4, 36, 37, 38, 39, 40, 9, 11, 83, 84, 85, 86, 87, 72, 73, 74, 75, 76, 77, 78, 79, 80, 81, 82] (by decide +kernel) (by decide +kernel)) (goodIn_sub (fun _ h => List.mem_cons_of_mem _ (List.mem_append_right _ h)) (by decide +kernel))
set_option maxRecDepth 20000 in
theorem gL_isLaidRight_X2_tricks : GoodIn wsL_isLaidRight (wsV RL 29 RX2 yX2_tricks wsX2_tricks) := goodIn_app (goodIn_of _ (by decide +kernel)) ggL_isLaidRight_X2_tricks
set_option maxRecDepth 20000 in
theorem ggL_isLaidRight_X2_points : GoodIn wsL_isLaidRight wsX2_points := goodIn_ca (goodIn_r _ [61, 32, 33, 62, 34, 35, 4, 36, 37, 38, 39, 40, 9, 11, 83, 84, 85, 86, 87, 72, 73, 74, 75, 76, 77, 78, 79, 80, 81, 82] (by decide +kernel) (by decide +kernel)) (goodIn_sub (fun _ h => List.mem_cons_of_mem _ (List.mem_append_right _ h)) (by decide +kernel))
set_option maxRecDepth 20000 in
theorem gL_isLaidRight_X2_points : GoodIn wsL_isLaidRight (wsV RL 32 RX2 yX2_points wsX2_points) := goodIn_app (goodIn_of _ (by decide +kernel)) ggL_isLaidRight_X2_points
set_option maxRecDepth 20000 in
theorem ggL_isLaidRight_X2_cardAt : GoodIn wsL_isLaidRight wsX2_cardAt := goodIn_ca (goodIn_r _ [66, 32, 33, 10, 34, 35, 4, 36, 37, 38, 39, 40, 9, 11, 17, 18, 19, 83, 84, 85, 86, 87, 72, 73, 74, 75, 76, 77, 78, 79, 80, 81, 82] (by decide +kernel) (by decide +kernel)) (goodIn_sub (fun _ h => List.mem_cons_of_mem _ (List.mem_append_right _ h)) (by decide +kernel))
set_option maxRecDepth 20000 in
theorem gL_isLaidRight_X2_cardAt : GoodIn wsL_isLaidRight (wsV RL 35 RX2 yX2_cardAt wsX2_cardAt) := goodIn_app (goodIn_of _ (by decide +kernel)) ggL_isLaidRight_X2_cardAt
set_option maxRecDepth 20000 in
theorem ggL_isLaidRight_X2_turn : GoodIn wsL_isLaidRight wsX2_turn := goodIn_r _ [70, 71, 72, 73, 74, 75, 76, 77, 78, 79, 80, 81, 82] (by decide +kernel) (by decide +kernel)
set_option maxRecDepth 20000 in
theorem gL_isLaidRight_X2_turn : GoodIn wsL_isLaidRight (wsV RL 39 RX2 yX2_turn wsX2_turn) := goodIn_app (goodIn_of _ (by decide +kernel)) ggL_isLaidRight_X2_turn
theorem dL_isLaidRight_0 : decode cL_isLaidRight 0 = .ok (.iconst 0, 1) := by decide +kernel
theorem dL_isLaidRight_1 : decode cL_isLaidRight 1 = .ok (.istore_n 2, 1) := by decide +kernel
theorem dL_isLaidRight_2 : decode cL_isLaidRight 2 = .ok (.iconst 0, 1) := by decide +kernel
theorem dL_isLaidRight_3 : decode cL_isLaidRight 3 = .ok (.istore_n 3, 1) := by decide +kernel
theorem dL_isLaidRight_4 : decode cL_isLaidRight 4 = .ok (.iconst 0, 1) := by decide +kernel
theorem dL_isLaidRight_5 : decode cL_isLaidRight 5 = .ok (.istore 4, 2) := by decide +kernel
theorem dL_isLaidRight_7 : decode cL_isLaidRight 7 = .ok (.iconst 0, 1) := by decide +kernel
theorem dL_isLaidRight_8 : decode cL_isLaidRight 8 = .ok (.istore 5, 2) := by decide +kernel
theorem dL_isLaidRight_10 : decode cL_isLaidRight 10 = .ok (.iconst 0, 1) := by decide +kernel
theorem dL_isLaidRight_11 : decode cL_isLaidRight 11 = .ok (.istore 6, 2) := by decide +kernel
theorem dL_isLaidRight_13 : decode cL_isLaidRight 13 = .ok (.iconst 1, 1) := by decide +kernel
theorem dL_isLaidRight_14 : decode cL_isLaidRight 14 = .ok (.istore 7, 2) := by decide +kernel
theorem dL_isLaidRight_16 : decode cL_isLaidRight 16 = .ok (.iconst 0, 1) := by decide +kernel
theorem dL_isLaidRight_17 : decode cL_isLaidRight 17 = .ok (.istore 8, 2) := by decide +kernel
theorem dL_isLaidRight_19 : decode cL_isLaidRight 19 = .ok (.iload 8, 2) := by decide +kernel
theorem dL_isLaidRight_21 : decode cL_isLaidRight 21 = .ok (.bipush 42, 2) := by decide +kernel
theorem dL_isLaidRight_23 : decode cL_isLaidRight 23 = .ok (.if_icmp .ge 154, 3) := by decide +kernel
theorem dL_isLaidRight_26 : decode cL_isLaidRight 26 = .ok (.aload_n 0, 1) := by decide +kernel
theorem dL_isLaidRight_27 : decode cL_isLaidRight 27 = .ok (.iload 8, 2) := by decide +kernel
theorem dL_isLaidRight_29 : decode cL_isLaidRight 29 = .ok (.invokevirtual 8, 3) := by decide +kernel
theorem dL_isLaidRight_32 : decode cL_isLaidRight 32 = .ok (.istore 9, 2) := by decide +kernel
theorem dL_isLaidRight_34 : decode cL_isLaidRight 34 = .ok (.iload_n 2, 1) := by decide +kernel
theorem dL_isLaidRight_35 : decode cL_isLaidRight 35 = .ok (.iload 9, 2) := by decide +kernel
theorem dL_isLaidRight_37 : decode cL_isLaidRight 37 = .ok (.ifCond .eq 9, 3) := by decide +kernel
theorem dL_isLaidRight_40 : decode cL_isLaidRight 40 = .ok (.iload 9, 2) := by decide +kernel
theorem dL_isLaidRight_42 : decode cL_isLaidRight 42 = .ok (.iconst 1, 1) := by decide +kernel
theorem dL_isLaidRight_43 : decode cL_isLaidRight 43 = .ok (.if_icmp .ne 7, 3) := by decide +kernel
theorem dL_isLaidRight_46 : decode cL_isLaidRight 46 = .ok (.iconst 1, 1) := by decide +kernel
theorem dL_isLaidRight_47 : decode cL_isLaidRight 47 = .ok (.goto 4, 3) := by decide +kernel
theorem dL_isLaidRight_50 : decode cL_isLaidRight 50 = .ok (.iconst 0, 1) := by decide +kernel
theorem dL_isLaidRight_51 : decode cL_isLaidRight 51 = .ok (.iadd, 1) := by decide +kernel
theorem dL_isLaidRight_52 : decode cL_isLaidRight 52 = .ok (.istore_n 2, 1) := by decide +kernel
theorem dL_isLaidRight_53 : decode cL_isLaidRight 53 = .ok (.iload_n 3, 1) := by decide +kernel
theorem dL_isLaidRight_54 : decode cL_isLaidRight 54 = .ok (.iload 9, 2) := by decide +kernel
theorem dL_isLaidRight_56 : decode cL_isLaidRight 56 = .ok (.iconst 2, 1) := by decide +kernel
theorem dL_isLaidRight_57 : decode cL_isLaidRight 57 = .ok (.if_icmp .ne 7, 3) := by decide +kernel
theorem dL_isLaidRight_60 : decode cL_isLaidRight 60 = .ok (.iconst 1, 1) := by decide +kernel
theorem dL_isLaidRight_61 : decode cL_isLaidRight 61 = .ok (.goto 4, 3) := by decide +kernel
theorem dL_isLaidRight_64 : decode cL_isLaidRight 64 = .ok (.iconst 0, 1) := by decide +kernel
theorem dL_isLaidRight_65 : decode cL_isLaidRight 65 = .ok (.iadd, 1) := by decide +kernel
theorem dL_isLaidRight_66 : decode cL_isLaidRight 66 = .ok (.istore_n 3, 1) := by decide +kernel
theorem dL_isLaidRight_67 : decode cL_isLaidRight 67 = .ok (.iload 4, 2) := by decide +kernel
theorem dL_isLaidRight_69 : decode cL_isLaidRight 69 = .ok (.iload 9, 2) := by decide +kernel
theorem dL_isLaidRight_71 : decode cL_isLaidRight 71 = .ok (.iconst 3, 1) := by decide +kernel
theorem dL_isLaidRight_72 : decode cL_isLaidRight 72 = .ok (.if_icmp .ne 7, 3) := by decide +kernel
theorem dL_isLaidRight_75 : decode cL_isLaidRight 75 = .ok (.iconst 1, 1) := by decide +kernel
theorem dL_isLaidRight_76 : decode cL_isLaidRight 76 = .ok (.goto 4, 3) := by decide +kernel
theorem dL_isLaidRight_79 : decode cL_isLaidRight 79 = .ok (.iconst 0, 1) := by decide +kernel
theorem dL_isLaidRight_80 : decode cL_isLaidRight 80 = .ok (.iadd, 1) := by decide +kernel
theorem dL_isLaidRight_81 : decode cL_isLaidRight 81 = .ok (.istore 4, 2) := by decide +kernel
theorem dL_isLaidRight_83 : decode cL_isLaidRight 83 = .ok (.iload 5, 2) := by decide +kernel
theorem dL_isLaidRight_85 : decode cL_isLaidRight 85 = .ok (.iload 9, 2) := by decide +kernel
theorem dL_isLaidRight_87 : decode cL_isLaidRight 87 = .ok (.iconst 3, 1) := by decide +kernel
theorem dL_isLaidRight_88 : decode cL_isLaidRight 88 = .ok (.if_icmp .le 7, 3) := by decide +kernel
theorem dL_isLaidRight_91 : decode cL_isLaidRight 91 = .ok (.iconst 1, 1) := by decide +kernel
theorem dL_isLaidRight_92 : decode cL_isLaidRight 92 = .ok (.goto 4, 3) := by decide +kernel
theorem dL_isLaidRight_95 : decode cL_isLaidRight 95 = .ok (.iconst 0, 1) := by decide +kernel
theorem dL_isLaidRight_96 : decode cL_isLaidRight 96 = .ok (.iadd, 1) := by decide +kernel
theorem dL_isLaidRight_97 : decode cL_isLaidRight 97 = .ok (.istore 5, 2) := by decide +kernel
theorem dL_isLaidRight_99 : decode cL_isLaidRight 99 = .ok (.iload 6, 2) := by decide +kernel
theorem dL_isLaidRight_101 : decode cL_isLaidRight 101 = .ok (.iload 9, 2) := by decide +kernel
theorem dL_isLaidRight_103 : decode cL_isLaidRight 103 = .ok (.iconst 3, 1) := by decide +kernel
theorem dL_isLaidRight_104 : decode cL_isLaidRight 104 = .ok (.if_icmp .le 11, 3) := by decide +kernel
theorem dL_isLaidRight_107 : decode cL_isLaidRight 107 = .ok (.iload 8, 2) := by decide +kernel
theorem dL_isLaidRight_109 : decode cL_isLaidRight 109 = .ok (.invokestatic 14, 3) := by decide +kernel
theorem dL_isLaidRight_112 : decode cL_isLaidRight 112 = .ok (.goto 4, 3) := by decide +kernel
theorem dL_isLaidRight_115 : decode cL_isLaidRight 115 = .ok (.iconst 0, 1) := by decide +kernel
theorem dL_isLaidRight_116 : decode cL_isLaidRight 116 = .ok (.iadd, 1) := by decide +kernel
theorem dL_isLaidRight_117 : decode cL_isLaidRight 117 = .ok (.istore 6, 2) := by decide +kernel
theorem dL_isLaidRight_119 : decode cL_isLaidRight 119 = .ok (.iload 7, 2) := by decide +kernel
theorem dL_isLaidRight_121 : decode cL_isLaidRight 121 = .ok (.ifCond .eq 47, 3) := by decide +kernel
theorem dL_isLaidRight_124 : decode cL_isLaidRight 124 = .ok (.iload 9, 2) := by decide +kernel
theorem dL_isLaidRight_126 : decode cL_isLaidRight 126 = .ok (.iconst 3, 1) := by decide +kernel
theorem dL_isLaidRight_127 : decode cL_isLaidRight 127 = .ok (.if_icmp .ne 7, 3) := by decide +kernel
theorem dL_isLaidRight_130 : decode cL_isLaidRight 130 = .ok (.iconst 1, 1) := by decide +kernel
theorem dL_isLaidRight_131 : decode cL_isLaidRight 131 = .ok (.goto 4, 3) := by decide +kernel
theorem dL_isLaidRight_134 : decode cL_isLaidRight 134 = .ok (.iconst 0, 1) := by decide +kernel
theorem dL_isLaidRight_135 : decode cL_isLaidRight 135 = .ok (.aload_n 0, 1) := by decide +kernel
theorem dL_isLaidRight_136 : decode cL_isLaidRight 136 = .ok (.invokevirtual 19, 3) := by decide +kernel
theorem dL_isLaidRight_139 : decode cL_isLaidRight 139 = .ok (.iload 8, 2) := by decide +kernel
theorem dL_isLaidRight_141 : decode cL_isLaidRight 141 = .ok (.if_icmp .ne 7, 3) := by decide +kernel
theorem dL_isLaidRight_144 : decode cL_isLaidRight 144 = .ok (.iconst 1, 1) := by decide +kernel
theorem dL_isLaidRight_145 : decode cL_isLaidRight 145 = .ok (.goto 4, 3) := by decide +kernel
theorem dL_isLaidRight_148 : decode cL_isLaidRight 148 = .ok (.iconst 0, 1) := by decide +kernel
theorem dL_isLaidRight_149 : decode cL_isLaidRight 149 = .ok (.if_icmp .ne 19, 3) := by decide +kernel
theorem dL_isLaidRight_152 : decode cL_isLaidRight 152 = .ok (.iload 9, 2) := by decide +kernel
theorem dL_isLaidRight_154 : decode cL_isLaidRight 154 = .ok (.ifCond .lt 14, 3) := by decide +kernel
theorem dL_isLaidRight_157 : decode cL_isLaidRight 157 = .ok (.iload 9, 2) := by decide +kernel
theorem dL_isLaidRight_159 : decode cL_isLaidRight 159 = .ok (.bipush 6, 2) := by decide +kernel
theorem dL_isLaidRight_161 : decode cL_isLaidRight 161 = .ok (.if_icmp .ge 7, 3) := by decide +kernel
theorem dL_isLaidRight_164 : decode cL_isLaidRight 164 = .ok (.iconst 1, 1) := by decide +kernel
theorem dL_isLaidRight_165 : decode cL_isLaidRight 165 = .ok (.goto 4, 3) := by decide +kernel
theorem dL_isLaidRight_168 : decode cL_isLaidRight 168 = .ok (.iconst 0, 1) := by decide +kernel
theorem dL_isLaidRight_169 : decode cL_isLaidRight 169 = .ok (.istore 7, 2) := by decide +kernel
theorem dL_isLaidRight_171 : decode cL_isLaidRight 171 = .ok (.iinc 8 1, 3) := by decide +kernel
theorem dL_isLaidRight_174 : decode cL_isLaidRight 174 = .ok (.goto (-155), 3) := by decide +kernel
theorem dL_isLaidRight_177 : decode cL_isLaidRight 177 = .ok (.iload 7, 2) := by decide +kernel
theorem dL_isLaidRight_179 : decode cL_isLaidRight 179 = .ok (.ifCond .eq 85, 3) := by decide +kernel
theorem dL_isLaidRight_182 : decode cL_isLaidRight 182 = .ok (.iload_n 2, 1) := by decide +kernel
theorem dL_isLaidRight_183 : decode cL_isLaidRight 183 = .ok (.aload_n 0, 1) := by decide +kernel
theorem dL_isLaidRight_184 : decode cL_isLaidRight 184 = .ok (.iconst 0, 1) := by decide +kernel
theorem dL_isLaidRight_185 : decode cL_isLaidRight 185 = .ok (.invokevirtual 23, 3) := by decide +kernel
theorem dL_isLaidRight_188 : decode cL_isLaidRight 188 = .ok (.aload_n 0, 1) := by decide +kernel
theorem dL_isLaidRight_189 : decode cL_isLaidRight 189 = .ok (.iconst 1, 1) := by decide +kernel
theorem dL_isLaidRight_190 : decode cL_isLaidRight 190 = .ok (.invokevirtual 23, 3) := by decide +kernel
theorem dL_isLaidRight_193 : decode cL_isLaidRight 193 = .ok (.iadd, 1) := by decide +kernel
theorem dL_isLaidRight_194 : decode cL_isLaidRight 194 = .ok (.if_icmp .ne 70, 3) := by decide +kernel
theorem dL_isLaidRight_197 : decode cL_isLaidRight 197 = .ok (.iload_n 3, 1) := by decide +kernel
theorem dL_isLaidRight_198 : decode cL_isLaidRight 198 = .ok (.aload_n 0, 1) := by decide +kernel
theorem dL_isLaidRight_199 : decode cL_isLaidRight 199 = .ok (.invokevirtual 26, 3) := by decide +kernel
theorem dL_isLaidRight_202 : decode cL_isLaidRight 202 = .ok (.if_icmp .ne 62, 3) := by decide +kernel
theorem dL_isLaidRight_205 : decode cL_isLaidRight 205 = .ok (.iload 4, 2) := by decide +kernel
theorem dL_isLaidRight_207 : decode cL_isLaidRight 207 = .ok (.aload_n 0, 1) := by decide +kernel
theorem dL_isLaidRight_208 : decode cL_isLaidRight 208 = .ok (.invokevirtual 19, 3) := by decide +kernel
theorem dL_isLaidRight_211 : decode cL_isLaidRight 211 = .ok (.ifCond .ge 7, 3) := by decide +kernel
theorem dL_isLaidRight_214 : decode cL_isLaidRight 214 = .ok (.iconst 0, 1) := by decide +kernel
theorem dL_isLaidRight_215 : decode cL_isLaidRight 215 = .ok (.goto 4, 3) := by decide +kernel
theorem dL_isLaidRight_218 : decode cL_isLaidRight 218 = .ok (.iconst 1, 1) := by decide +kernel
theorem dL_isLaidRight_219 : decode cL_isLaidRight 219 = .ok (.if_icmp .ne 45, 3) := by decide +kernel
theorem dL_isLaidRight_222 : decode cL_isLaidRight 222 = .ok (.iload 5, 2) := by decide +kernel
theorem dL_isLaidRight_224 : decode cL_isLaidRight 224 = .ok (.iconst 2, 1) := by decide +kernel
theorem dL_isLaidRight_225 : decode cL_isLaidRight 225 = .ok (.aload_n 0, 1) := by decide +kernel
theorem dL_isLaidRight_226 : decode cL_isLaidRight 226 = .ok (.iconst 0, 1) := by decide +kernel
theorem dL_isLaidRight_227 : decode cL_isLaidRight 227 = .ok (.invokevirtual 29, 3) := by decide +kernel
theorem dL_isLaidRight_230 : decode cL_isLaidRight 230 = .ok (.aload_n 0, 1) := by decide +kernel
theorem dL_isLaidRight_231 : decode cL_isLaidRight 231 = .ok (.iconst 1, 1) := by decide +kernel
theorem dL_isLaidRight_232 : decode cL_isLaidRight 232 = .ok (.invokevirtual 29, 3) := by decide +kernel
theorem dL_isLaidRight_235 : decode cL_isLaidRight 235 = .ok (.iadd, 1) := by decide +kernel
theorem dL_isLaidRight_236 : decode cL_isLaidRight 236 = .ok (.imul, 1) := by decide +kernel
theorem dL_isLaidRight_237 : decode cL_isLaidRight 237 = .ok (.if_icmp .ne 27, 3) := by decide +kernel
theorem dL_isLaidRight_240 : decode cL_isLaidRight 240 = .ok (.aload_n 0, 1) := by decide +kernel
theorem dL_isLaidRight_241 : decode cL_isLaidRight 241 = .ok (.iconst 0, 1) := by decide +kernel
theorem dL_isLaidRight_242 : decode cL_isLaidRight 242 = .ok (.invokevirtual 32, 3) := by decide +kernel
theorem dL_isLaidRight_245 : decode cL_isLaidRight 245 = .ok (.aload_n 0, 1) := by decide +kernel
theorem dL_isLaidRight_246 : decode cL_isLaidRight 246 = .ok (.iconst 1, 1) := by decide +kernel
theorem dL_isLaidRight_247 : decode cL_isLaidRight 247 = .ok (.invokevirtual 32, 3) := by decide +kernel
theorem dL_isLaidRight_250 : decode cL_isLaidRight 250 = .ok (.iadd, 1) := by decide +kernel
theorem dL_isLaidRight_251 : decode cL_isLaidRight 251 = .ok (.iload 6, 2) := by decide +kernel
theorem dL_isLaidRight_253 : decode cL_isLaidRight 253 = .ok (.iconst 5, 1) := by decide +kernel
theorem dL_isLaidRight_254 : decode cL_isLaidRight 254 = .ok (.iload_n 1, 1) := by decide +kernel
theorem dL_isLaidRight_255 : decode cL_isLaidRight 255 = .ok (.imul, 1) := by decide +kernel
theorem dL_isLaidRight_256 : decode cL_isLaidRight 256 = .ok (.iadd, 1) := by decide +kernel
theorem dL_isLaidRight_257 : decode cL_isLaidRight 257 = .ok (.if_icmp .ne 7, 3) := by decide +kernel
theorem dL_isLaidRight_260 : decode cL_isLaidRight 260 = .ok (.iconst 1, 1) := by decide +kernel
theorem dL_isLaidRight_261 : decode cL_isLaidRight 261 = .ok (.goto 4, 3) := by decide +kernel
theorem dL_isLaidRight_264 : decode cL_isLaidRight 264 = .ok (.iconst 0, 1) := by decide +kernel
theorem dL_isLaidRight_265 : decode cL_isLaidRight 265 = .ok (.istore 7, 2) := by decide +kernel
theorem dL_isLaidRight_267 : decode cL_isLaidRight 267 = .ok (.iconst 0, 1) := by decide +kernel
theorem dL_isLaidRight_268 : decode cL_isLaidRight 268 = .ok (.istore 8, 2) := by decide +kernel
theorem dL_isLaidRight_270 : decode cL_isLaidRight 270 = .ok (.iload 8, 2) := by decide +kernel
theorem dL_isLaidRight_272 : decode cL_isLaidRight 272 = .ok (.iconst 2, 1) := by decide +kernel
theorem dL_isLaidRight_273 : decode cL_isLaidRight 273 = .ok (.if_icmp .ge 82, 3) := by decide +kernel
theorem dL_isLaidRight_276 : decode cL_isLaidRight 276 = .ok (.iconst 0, 1) := by decide +kernel
theorem dL_isLaidRight_277 : decode cL_isLaidRight 277 = .ok (.istore 9, 2) := by decide +kernel
theorem dL_isLaidRight_279 : decode cL_isLaidRight 279 = .ok (.iload 9, 2) := by decide +kernel
theorem dL_isLaidRight_281 : decode cL_isLaidRight 281 = .ok (.aload_n 0, 1) := by decide +kernel
theorem dL_isLaidRight_282 : decode cL_isLaidRight 282 = .ok (.iload 8, 2) := by decide +kernel
theorem dL_isLaidRight_284 : decode cL_isLaidRight 284 = .ok (.invokevirtual 23, 3) := by decide +kernel
theorem dL_isLaidRight_287 : decode cL_isLaidRight 287 = .ok (.if_icmp .ge 62, 3) := by decide +kernel
theorem dL_isLaidRight_290 : decode cL_isLaidRight 290 = .ok (.aload_n 0, 1) := by decide +kernel
theorem dL_isLaidRight_291 : decode cL_isLaidRight 291 = .ok (.iload 8, 2) := by decide +kernel
theorem dL_isLaidRight_293 : decode cL_isLaidRight 293 = .ok (.iload 9, 2) := by decide +kernel
theorem dL_isLaidRight_295 : decode cL_isLaidRight 295 = .ok (.invokevirtual 35, 3) := by decide +kernel
theorem dL_isLaidRight_298 : decode cL_isLaidRight 298 = .ok (.istore 10, 2) := by decide +kernel
theorem dL_isLaidRight_300 : decode cL_isLaidRight 300 = .ok (.iload 7, 2) := by decide +kernel
theorem dL_isLaidRight_302 : decode cL_isLaidRight 302 = .ok (.ifCond .eq 38, 3) := by decide +kernel
theorem dL_isLaidRight_305 : decode cL_isLaidRight 305 = .ok (.aload_n 0, 1) := by decide +kernel
theorem dL_isLaidRight_306 : decode cL_isLaidRight 306 = .ok (.iload 10, 2) := by decide +kernel
theorem dL_isLaidRight_308 : decode cL_isLaidRight 308 = .ok (.invokevirtual 8, 3) := by decide +kernel
theorem dL_isLaidRight_311 : decode cL_isLaidRight 311 = .ok (.iload 8, 2) := by decide +kernel
theorem dL_isLaidRight_313 : decode cL_isLaidRight 313 = .ok (.if_icmp .ne 27, 3) := by decide +kernel
theorem dL_isLaidRight_316 : decode cL_isLaidRight 316 = .ok (.iload 9, 2) := by decide +kernel
theorem dL_isLaidRight_318 : decode cL_isLaidRight 318 = .ok (.ifCond .eq 18, 3) := by decide +kernel
theorem dL_isLaidRight_321 : decode cL_isLaidRight 321 = .ok (.aload_n 0, 1) := by decide +kernel
theorem dL_isLaidRight_322 : decode cL_isLaidRight 322 = .ok (.iload 8, 2) := by decide +kernel
theorem dL_isLaidRight_324 : decode cL_isLaidRight 324 = .ok (.iload 9, 2) := by decide +kernel
theorem dL_isLaidRight_326 : decode cL_isLaidRight 326 = .ok (.iconst 1, 1) := by decide +kernel
theorem dL_isLaidRight_327 : decode cL_isLaidRight 327 = .ok (.isub, 1) := by decide +kernel
theorem dL_isLaidRight_328 : decode cL_isLaidRight 328 = .ok (.invokevirtual 35, 3) := by decide +kernel
theorem dL_isLaidRight_331 : decode cL_isLaidRight 331 = .ok (.iload 10, 2) := by decide +kernel
theorem dL_isLaidRight_333 : decode cL_isLaidRight 333 = .ok (.if_icmp .ge 7, 3) := by decide +kernel
theorem dL_isLaidRight_336 : decode cL_isLaidRight 336 = .ok (.iconst 1, 1) := by decide +kernel
theorem dL_isLaidRight_337 : decode cL_isLaidRight 337 = .ok (.goto 4, 3) := by decide +kernel
theorem dL_isLaidRight_340 : decode cL_isLaidRight 340 = .ok (.iconst 0, 1) := by decide +kernel
theorem dL_isLaidRight_341 : decode cL_isLaidRight 341 = .ok (.istore 7, 2) := by decide +kernel
theorem dL_isLaidRight_343 : decode cL_isLaidRight 343 = .ok (.iinc 9 1, 3) := by decide +kernel
theorem dL_isLaidRight_346 : decode cL_isLaidRight 346 = .ok (.goto (-67), 3) := by decide +kernel
theorem dL_isLaidRight_349 : decode cL_isLaidRight 349 = .ok (.iinc 8 1, 3) := by decide +kernel
theorem dL_isLaidRight_352 : decode cL_isLaidRight 352 = .ok (.goto (-82), 3) := by decide +kernel
theorem dL_isLaidRight_355 : decode cL_isLaidRight 355 = .ok (.aload_n 0, 1) := by decide +kernel
theorem dL_isLaidRight_356 : decode cL_isLaidRight 356 = .ok (.invokevirtual 19, 3) := by decide +kernel
theorem dL_isLaidRight_359 : decode cL_isLaidRight 359 = .ok (.ifCond .ge 7, 3) := by decide +kernel
theorem dL_isLaidRight_362 : decode cL_isLaidRight 362 = .ok (.iconst 1, 1) := by decide +kernel
theorem dL_isLaidRight_363 : decode cL_isLaidRight 363 = .ok (.goto 4, 3) := by decide +kernel
theorem dL_isLaidRight_366 : decode cL_isLaidRight 366 = .ok (.iconst 0, 1) := by decide +kernel
theorem dL_isLaidRight_367 : decode cL_isLaidRight 367 = .ok (.istore 8, 2) := by decide +kernel
theorem dL_isLaidRight_369 : decode cL_isLaidRight 369 = .ok (.aload_n 0, 1) := by decide +kernel
theorem dL_isLaidRight_370 : decode cL_isLaidRight 370 = .ok (.invokevirtual 39, 3) := by decide +kernel
theorem dL_isLaidRight_373 : decode cL_isLaidRight 373 = .ok (.istore 9, 2) := by decide +kernel
theorem dL_isLaidRight_375 : decode cL_isLaidRight 375 = .ok (.iload 7, 2) := by decide +kernel
theorem dL_isLaidRight_377 : decode cL_isLaidRight 377 = .ok (.ifCond .eq 78, 3) := by decide +kernel
theorem dL_isLaidRight_380 : decode cL_isLaidRight 380 = .ok (.iload 9, 2) := by decide +kernel
theorem dL_isLaidRight_382 : decode cL_isLaidRight 382 = .ok (.ifCond .ge 10, 3) := by decide +kernel
theorem dL_isLaidRight_385 : decode cL_isLaidRight 385 = .ok (.iload_n 2, 1) := by decide +kernel
theorem dL_isLaidRight_386 : decode cL_isLaidRight 386 = .ok (.ifCond .ne 69, 3) := by decide +kernel
theorem dL_isLaidRight_389 : decode cL_isLaidRight 389 = .ok (.goto 31, 3) := by decide +kernel
theorem dL_isLaidRight_392 : decode cL_isLaidRight 392 = .ok (.aload_n 0, 1) := by decide +kernel
theorem dL_isLaidRight_393 : decode cL_isLaidRight 393 = .ok (.iload 9, 2) := by decide +kernel
theorem dL_isLaidRight_395 : decode cL_isLaidRight 395 = .ok (.invokevirtual 23, 3) := by decide +kernel
theorem dL_isLaidRight_398 : decode cL_isLaidRight 398 = .ok (.aload_n 0, 1) := by decide +kernel
theorem dL_isLaidRight_399 : decode cL_isLaidRight 399 = .ok (.iconst 1, 1) := by decide +kernel
theorem dL_isLaidRight_400 : decode cL_isLaidRight 400 = .ok (.iload 9, 2) := by decide +kernel
theorem dL_isLaidRight_402 : decode cL_isLaidRight 402 = .ok (.isub, 1) := by decide +kernel
theorem dL_isLaidRight_403 : decode cL_isLaidRight 403 = .ok (.invokevirtual 23, 3) := by decide +kernel
theorem dL_isLaidRight_406 : decode cL_isLaidRight 406 = .ok (.iload 8, 2) := by decide +kernel
theorem dL_isLaidRight_408 : decode cL_isLaidRight 408 = .ok (.ifCond .eq 7, 3) := by decide +kernel
theorem dL_isLaidRight_411 : decode cL_isLaidRight 411 = .ok (.iconst 0, 1) := by decide +kernel
theorem dL_isLaidRight_412 : decode cL_isLaidRight 412 = .ok (.goto 4, 3) := by decide +kernel
theorem dL_isLaidRight_415 : decode cL_isLaidRight 415 = .ok (.iconst 1, 1) := by decide +kernel
theorem dL_isLaidRight_416 : decode cL_isLaidRight 416 = .ok (.iadd, 1) := by decide +kernel
theorem dL_isLaidRight_417 : decode cL_isLaidRight 417 = .ok (.if_icmp .ne 38, 3) := by decide +kernel
theorem dL_isLaidRight_420 : decode cL_isLaidRight 420 = .ok (.aload_n 0, 1) := by decide +kernel
theorem dL_isLaidRight_421 : decode cL_isLaidRight 421 = .ok (.invokevirtual 26, 3) := by decide +kernel
theorem dL_isLaidRight_424 : decode cL_isLaidRight 424 = .ok (.ifCond .eq 18, 3) := by decide +kernel
theorem dL_isLaidRight_427 : decode cL_isLaidRight 427 = .ok (.aload_n 0, 1) := by decide +kernel
theorem dL_isLaidRight_428 : decode cL_isLaidRight 428 = .ok (.iconst 1, 1) := by decide +kernel
theorem dL_isLaidRight_429 : decode cL_isLaidRight 429 = .ok (.invokevirtual 23, 3) := by decide +kernel
theorem dL_isLaidRight_432 : decode cL_isLaidRight 432 = .ok (.bipush 6, 2) := by decide +kernel
theorem dL_isLaidRight_434 : decode cL_isLaidRight 434 = .ok (.if_icmp .eq 8, 3) := by decide +kernel
theorem dL_isLaidRight_437 : decode cL_isLaidRight 437 = .ok (.iload 8, 2) := by decide +kernel
theorem dL_isLaidRight_439 : decode cL_isLaidRight 439 = .ok (.ifCond .ne 16, 3) := by decide +kernel
theorem dL_isLaidRight_442 : decode cL_isLaidRight 442 = .ok (.aload_n 0, 1) := by decide +kernel
theorem dL_isLaidRight_443 : decode cL_isLaidRight 443 = .ok (.invokevirtual 26, 3) := by decide +kernel
theorem dL_isLaidRight_446 : decode cL_isLaidRight 446 = .ok (.iconst 2, 1) := by decide +kernel
theorem dL_isLaidRight_447 : decode cL_isLaidRight 447 = .ok (.irem, 1) := by decide +kernel
theorem dL_isLaidRight_448 : decode cL_isLaidRight 448 = .ok (.ifCond .ne 7, 3) := by decide +kernel
theorem dL_isLaidRight_451 : decode cL_isLaidRight 451 = .ok (.iconst 1, 1) := by decide +kernel
theorem dL_isLaidRight_452 : decode cL_isLaidRight 452 = .ok (.goto 4, 3) := by decide +kernel
theorem dL_isLaidRight_455 : decode cL_isLaidRight 455 = .ok (.iconst 0, 1) := by decide +kernel
theorem dL_isLaidRight_456 : decode cL_isLaidRight 456 = .ok (.ireturn, 1) := by decide +kernel
set_option maxRecDepth 20000 in
theorem ggL_isFree_X2_turn : GoodIn wsL_isFree wsX2_turn := goodIn_r _ [5, 6, 83, 84, 85, 86, 87, 88, 89, 90, 91, 92, 93] (by decide +kernel) (by decide +kernel)
set_option maxRecDepth 20000 in
theorem gL_isFree_X2_turn : GoodIn wsL_isFree (wsV RL 39 RX2 yX2_turn wsX2_turn) := goodIn_app (goodIn_of _ (by decide +kernel)) ggL_isFree_X2_turn
set_option maxRecDepth 20000 in
theorem ggL_isFree_X2_cards : GoodIn wsL_isFree wsX2_cards := goodIn_ca (goodIn_r _ [10, 11, 12, 13, 14, 15, 4, 16, 17, 18, 19, 20, 21, 22, 23, 24, 25, 26, 27, 28, 29, 94, 95, 96, 97, 98, 83, 84, 85, 86, 87, 88, 89, 90, 91, 92, 93] (by decide +kernel) (by decide +kernel)) (goodIn_sub (fun _ h => List.mem_cons_of_mem _ (List.mem_append_left _ (List.mem_append_right _ h))) (by decide +kernel))
set_option maxRecDepth 20000 in
theorem gL_isFree_X2_cards : GoodIn wsL_isFree (wsV RL 23 RX2 yX2_cards wsX2_cards) := goodIn_app (goodIn_of _ (by decide +kernel)) ggL_isFree_X2_cards
set_option maxRecDepth 20000 in
theorem ggL_isFree_X2_cardAt : GoodIn wsL_isFree wsX2_cardAt := goodIn_ca (goodIn_r _ [33, 11, 12, 13, 14, 15, 4, 16, 17, 18, 19, 20, 21, 22, 34, 35, 36, 94, 95, 96, 97, 98, 83, 84, 85, 86, 87, 88, 89, 90, 91, 92, 93] (by decide +kernel) (by decide +kernel)) (goodIn_sub (fun _ h => List.mem_cons_of_mem _ (List.mem_append_left _ (List.mem_append_right _ h))) (by decide +kernel))
set_option maxRecDepth 20000 in
theorem gL_isFree_X2_cardAt : GoodIn wsL_isFree (wsV RL 35 RX2 yX2_cardAt wsX2_cardAt) := goodIn_app (goodIn_of _ (by decide +kernel)) ggL_isFree_X2_cardAt
set_option maxRecDepth 20000 in
theorem ggL_isFree_X2_whyNot : GoodIn wsL_isFree wsX2_whyNot := goodIn_ca (goodIn_r _ [40, 41, 42, 43, 44, 4, 45, 46, 47, 48, 49, 6, 50, 51, 52, 53, 54, 55, 56, 13, 17, 18, 19, 20, 21, 22, 34, 35, 36, 57, 58, 59, 60, 61, 62, 63, 64, 65, 66, 67, 68, 69, 70, 83, 84, 85, 86, 87, 88, 89, 90, 91, 92, 93, 94, 95, 96, 97, 98] (by decide +kernel) (by decide +kernel)) (goodIn_sub (fun _ h => List.mem_cons_of_mem _ (List.mem_append_right _ h)) (by decide +kernel))
set_option maxRecDepth 20000 in
theorem gL_isFree_X2_whyNot : GoodIn wsL_isFree (wsV RL 42 RX2 yX2_whyNot wsX2_whyNot) := goodIn_app (goodIn_of _ (by decide +kernel)) ggL_isFree_X2_whyNot
set_option maxRecDepth 20000 in
theorem ggL_isFree_X2_pile : GoodIn wsL_isFree wsX2_pile := goodIn_r _ [74, 51, 83, 84, 85, 86, 87, 88, 89, 90, 91, 92, 93] (by decide +kernel) (by decide +kernel)
set_option maxRecDepth 20000 in
theorem gL_isFree_X2_pile : GoodIn wsL_isFree (wsV RL 26 RX2 yX2_pile wsX2_pile) := goodIn_app (goodIn_of _ (by decide +kernel)) ggL_isFree_X2_pile
set_option maxRecDepth 20000 in
theorem ggL_isFree_X2_led : GoodIn wsL_isFree wsX2_led := goodIn_r _ [78, 50, 83, 84, 85, 86, 87, 88, 89, 90, 91, 92, 93] (by decide +kernel) (by decide +kernel)
set_option maxRecDepth 20000 in
theorem gL_isFree_X2_led : GoodIn wsL_isFree (wsV RL 19 RX2 yX2_led wsX2_led) := goodIn_app (goodIn_of _ (by decide +kernel)) ggL_isFree_X2_led
set_option maxRecDepth 20000 in
theorem ggL_isFree_X2_choices : GoodIn wsL_isFree wsX2_choices := goodIn_r _ [82, 46, 47, 48, 4, 49, 6, 50, 51, 52, 53, 54, 55, 56, 13, 17, 18, 19, 20, 21, 22, 34, 35, 36, 57, 58, 59, 60, 61, 62, 63, 64, 65, 66, 67, 68, 69, 70, 83, 84, 85, 86, 87, 88, 89, 90, 91, 92, 93, 94, 95, 96, 97, 98] (by decide +kernel) (by decide +kernel)
set_option maxRecDepth 20000 in
theorem gL_isFree_X2_choices : GoodIn wsL_isFree (wsV RL 45 RX2 yX2_choices wsX2_choices) := goodIn_app (goodIn_of _ (by decide +kernel)) ggL_isFree_X2_choices
theorem dL_isFree_0 : decode cL_isFree 0 = .ok (.aload_n 0, 1) := by decide +kernel
theorem dL_isFree_1 : decode cL_isFree 1 = .ok (.invokevirtual 39, 3) := by decide +kernel
theorem dL_isFree_4 : decode cL_isFree 4 = .ok (.istore_n 1, 1) := by decide +kernel
theorem dL_isFree_5 : decode cL_isFree 5 = .ok (.iconst 0, 1) := by decide +kernel
theorem dL_isFree_6 : decode cL_isFree 6 = .ok (.istore_n 2, 1) := by decide +kernel
theorem dL_isFree_7 : decode cL_isFree 7 = .ok (.iconst 0, 1) := by decide +kernel
theorem dL_isFree_8 : decode cL_isFree 8 = .ok (.istore_n 3, 1) := by decide +kernel
theorem dL_isFree_9 : decode cL_isFree 9 = .ok (.iconst 0, 1) := by decide +kernel
theorem dL_isFree_10 : decode cL_isFree 10 = .ok (.istore 4, 2) := by decide +kernel
theorem dL_isFree_12 : decode cL_isFree 12 = .ok (.iload 4, 2) := by decide +kernel
theorem dL_isFree_14 : decode cL_isFree 14 = .ok (.aload_n 0, 1) := by decide +kernel
theorem dL_isFree_15 : decode cL_isFree 15 = .ok (.iload_n 1, 1) := by decide +kernel
theorem dL_isFree_16 : decode cL_isFree 16 = .ok (.invokevirtual 23, 3) := by decide +kernel
theorem dL_isFree_19 : decode cL_isFree 19 = .ok (.if_icmp .ge 113, 3) := by decide +kernel
theorem dL_isFree_22 : decode cL_isFree 22 = .ok (.aload_n 0, 1) := by decide +kernel
theorem dL_isFree_23 : decode cL_isFree 23 = .ok (.iload_n 1, 1) := by decide +kernel
theorem dL_isFree_24 : decode cL_isFree 24 = .ok (.iload 4, 2) := by decide +kernel
theorem dL_isFree_26 : decode cL_isFree 26 = .ok (.invokevirtual 35, 3) := by decide +kernel
theorem dL_isFree_29 : decode cL_isFree 29 = .ok (.istore 5, 2) := by decide +kernel
theorem dL_isFree_31 : decode cL_isFree 31 = .ok (.aload_n 0, 1) := by decide +kernel
theorem dL_isFree_32 : decode cL_isFree 32 = .ok (.iload 5, 2) := by decide +kernel
theorem dL_isFree_34 : decode cL_isFree 34 = .ok (.invokevirtual 42, 3) := by decide +kernel
theorem dL_isFree_37 : decode cL_isFree 37 = .ok (.istore 6, 2) := by decide +kernel
theorem dL_isFree_39 : decode cL_isFree 39 = .ok (.iload_n 3, 1) := by decide +kernel
theorem dL_isFree_40 : decode cL_isFree 40 = .ok (.iload 5, 2) := by decide +kernel
theorem dL_isFree_42 : decode cL_isFree 42 = .ok (.bipush 39, 2) := by decide +kernel
theorem dL_isFree_44 : decode cL_isFree 44 = .ok (.if_icmp .le 7, 3) := by decide +kernel
theorem dL_isFree_47 : decode cL_isFree 47 = .ok (.iconst 1, 1) := by decide +kernel
theorem dL_isFree_48 : decode cL_isFree 48 = .ok (.goto 4, 3) := by decide +kernel
theorem dL_isFree_51 : decode cL_isFree 51 = .ok (.iconst 0, 1) := by decide +kernel
theorem dL_isFree_52 : decode cL_isFree 52 = .ok (.iadd, 1) := by decide +kernel
theorem dL_isFree_53 : decode cL_isFree 53 = .ok (.istore_n 3, 1) := by decide +kernel
theorem dL_isFree_54 : decode cL_isFree 54 = .ok (.iload_n 2, 1) := by decide +kernel
theorem dL_isFree_55 : decode cL_isFree 55 = .ok (.iload 6, 2) := by decide +kernel
theorem dL_isFree_57 : decode cL_isFree 57 = .ok (.ifCond .ne 7, 3) := by decide +kernel
theorem dL_isFree_60 : decode cL_isFree 60 = .ok (.iconst 1, 1) := by decide +kernel
theorem dL_isFree_61 : decode cL_isFree 61 = .ok (.goto 4, 3) := by decide +kernel
theorem dL_isFree_64 : decode cL_isFree 64 = .ok (.iconst 0, 1) := by decide +kernel
theorem dL_isFree_65 : decode cL_isFree 65 = .ok (.iadd, 1) := by decide +kernel
theorem dL_isFree_66 : decode cL_isFree 66 = .ok (.istore_n 2, 1) := by decide +kernel
theorem dL_isFree_67 : decode cL_isFree 67 = .ok (.iload 6, 2) := by decide +kernel
theorem dL_isFree_69 : decode cL_isFree 69 = .ok (.iconst 4, 1) := by decide +kernel
theorem dL_isFree_70 : decode cL_isFree 70 = .ok (.if_icmp .eq 9, 3) := by decide +kernel
theorem dL_isFree_73 : decode cL_isFree 73 = .ok (.iload 6, 2) := by decide +kernel
theorem dL_isFree_75 : decode cL_isFree 75 = .ok (.iconst 5, 1) := by decide +kernel
theorem dL_isFree_76 : decode cL_isFree 76 = .ok (.if_icmp .ne 28, 3) := by decide +kernel
theorem dL_isFree_79 : decode cL_isFree 79 = .ok (.aload_n 0, 1) := by decide +kernel
theorem dL_isFree_80 : decode cL_isFree 80 = .ok (.invokevirtual 26, 3) := by decide +kernel
theorem dL_isFree_83 : decode cL_isFree 83 = .ok (.ifCond .gt 19, 3) := by decide +kernel
theorem dL_isFree_86 : decode cL_isFree 86 = .ok (.aload_n 0, 1) := by decide +kernel
theorem dL_isFree_87 : decode cL_isFree 87 = .ok (.invokevirtual 19, 3) := by decide +kernel
theorem dL_isFree_90 : decode cL_isFree 90 = .ok (.ifCond .lt 12, 3) := by decide +kernel
theorem dL_isFree_93 : decode cL_isFree 93 = .ok (.aload_n 0, 1) := by decide +kernel
theorem dL_isFree_94 : decode cL_isFree 94 = .ok (.invokevirtual 19, 3) := by decide +kernel
theorem dL_isFree_97 : decode cL_isFree 97 = .ok (.bipush 39, 2) := by decide +kernel
theorem dL_isFree_99 : decode cL_isFree 99 = .ok (.if_icmp .le 5, 3) := by decide +kernel
theorem dL_isFree_102 : decode cL_isFree 102 = .ok (.iconst 0, 1) := by decide +kernel
theorem dL_isFree_103 : decode cL_isFree 103 = .ok (.ireturn, 1) := by decide +kernel
theorem dL_isFree_104 : decode cL_isFree 104 = .ok (.iload 6, 2) := by decide +kernel
theorem dL_isFree_106 : decode cL_isFree 106 = .ok (.iconst 3, 1) := by decide +kernel
theorem dL_isFree_107 : decode cL_isFree 107 = .ok (.if_icmp .ne 19, 3) := by decide +kernel
theorem dL_isFree_110 : decode cL_isFree 110 = .ok (.iload 5, 2) := by decide +kernel
theorem dL_isFree_112 : decode cL_isFree 112 = .ok (.bipush 40, 2) := by decide +kernel
theorem dL_isFree_114 : decode cL_isFree 114 = .ok (.if_icmp .lt 10, 3) := by decide +kernel
theorem dL_isFree_117 : decode cL_isFree 117 = .ok (.aload_n 0, 1) := by decide +kernel
theorem dL_isFree_118 : decode cL_isFree 118 = .ok (.invokevirtual 19, 3) := by decide +kernel
theorem dL_isFree_121 : decode cL_isFree 121 = .ok (.ifCond .lt 5, 3) := by decide +kernel
theorem dL_isFree_124 : decode cL_isFree 124 = .ok (.iconst 0, 1) := by decide +kernel
theorem dL_isFree_125 : decode cL_isFree 125 = .ok (.ireturn, 1) := by decide +kernel
theorem dL_isFree_126 : decode cL_isFree 126 = .ok (.iinc 4 1, 3) := by decide +kernel
theorem dL_isFree_129 : decode cL_isFree 129 = .ok (.goto (-117), 3) := by decide +kernel
theorem dL_isFree_132 : decode cL_isFree 132 = .ok (.aload_n 0, 1) := by decide +kernel
theorem dL_isFree_133 : decode cL_isFree 133 = .ok (.invokevirtual 19, 3) := by decide +kernel
theorem dL_isFree_136 : decode cL_isFree 136 = .ok (.ifCond .ge 7, 3) := by decide +kernel
theorem dL_isFree_139 : decode cL_isFree 139 = .ok (.iconst 1, 1) := by decide +kernel
theorem dL_isFree_140 : decode cL_isFree 140 = .ok (.goto 4, 3) := by decide +kernel
theorem dL_isFree_143 : decode cL_isFree 143 = .ok (.iconst 0, 1) := by decide +kernel
theorem dL_isFree_144 : decode cL_isFree 144 = .ok (.istore 4, 2) := by decide +kernel
theorem dL_isFree_146 : decode cL_isFree 146 = .ok (.aload_n 0, 1) := by decide +kernel
theorem dL_isFree_147 : decode cL_isFree 147 = .ok (.iload_n 1, 1) := by decide +kernel
theorem dL_isFree_148 : decode cL_isFree 148 = .ok (.invokevirtual 23, 3) := by decide +kernel
theorem dL_isFree_151 : decode cL_isFree 151 = .ok (.istore 5, 2) := by decide +kernel
theorem dL_isFree_153 : decode cL_isFree 153 = .ok (.iload_n 2, 1) := by decide +kernel
theorem dL_isFree_154 : decode cL_isFree 154 = .ok (.aload_n 0, 1) := by decide +kernel
theorem dL_isFree_155 : decode cL_isFree 155 = .ok (.invokevirtual 45, 3) := by decide +kernel
theorem dL_isFree_158 : decode cL_isFree 158 = .ok (.if_icmp .ne 53, 3) := by decide +kernel
theorem dL_isFree_161 : decode cL_isFree 161 = .ok (.iload_n 2, 1) := by decide +kernel
theorem dL_isFree_162 : decode cL_isFree 162 = .ok (.ifCond .le 49, 3) := by decide +kernel
theorem dL_isFree_165 : decode cL_isFree 165 = .ok (.aload_n 0, 1) := by decide +kernel
theorem dL_isFree_166 : decode cL_isFree 166 = .ok (.invokevirtual 26, 3) := by decide +kernel
theorem dL_isFree_169 : decode cL_isFree 169 = .ok (.ifCond .eq 14, 3) := by decide +kernel
theorem dL_isFree_172 : decode cL_isFree 172 = .ok (.iload 4, 2) := by decide +kernel
theorem dL_isFree_174 : decode cL_isFree 174 = .ok (.ifCond .ne 9, 3) := by decide +kernel
theorem dL_isFree_177 : decode cL_isFree 177 = .ok (.iload_n 2, 1) := by decide +kernel
theorem dL_isFree_178 : decode cL_isFree 178 = .ok (.iload 5, 2) := by decide +kernel
theorem dL_isFree_180 : decode cL_isFree 180 = .ok (.if_icmp .ne 31, 3) := by decide +kernel
theorem dL_isFree_183 : decode cL_isFree 183 = .ok (.iload 4, 2) := by decide +kernel
theorem dL_isFree_185 : decode cL_isFree 185 = .ok (.ifCond .eq 22, 3) := by decide +kernel
theorem dL_isFree_188 : decode cL_isFree 188 = .ok (.iload_n 2, 1) := by decide +kernel
theorem dL_isFree_189 : decode cL_isFree 189 = .ok (.iload_n 3, 1) := by decide +kernel
theorem dL_isFree_190 : decode cL_isFree 190 = .ok (.iload 5, 2) := by decide +kernel
theorem dL_isFree_192 : decode cL_isFree 192 = .ok (.if_icmp .ne 8, 3) := by decide +kernel
theorem dL_isFree_195 : decode cL_isFree 195 = .ok (.iload 5, 2) := by decide +kernel
theorem dL_isFree_197 : decode cL_isFree 197 = .ok (.goto 7, 3) := by decide +kernel
theorem dL_isFree_200 : decode cL_isFree 200 = .ok (.iload 5, 2) := by decide +kernel
theorem dL_isFree_202 : decode cL_isFree 202 = .ok (.iload_n 3, 1) := by decide +kernel
theorem dL_isFree_203 : decode cL_isFree 203 = .ok (.isub, 1) := by decide +kernel
theorem dL_isFree_204 : decode cL_isFree 204 = .ok (.if_icmp .ne 7, 3) := by decide +kernel
theorem dL_isFree_207 : decode cL_isFree 207 = .ok (.iconst 1, 1) := by decide +kernel
theorem dL_isFree_208 : decode cL_isFree 208 = .ok (.goto 4, 3) := by decide +kernel
theorem dL_isFree_211 : decode cL_isFree 211 = .ok (.iconst 0, 1) := by decide +kernel
theorem dL_isFree_212 : decode cL_isFree 212 = .ok (.ireturn, 1) := by decide +kernel
end
section
/-! MAKING OBJECTS: a nest mate's private constructor is called -/
section JI
variable {p : Program} {l : Launch} {e : Env} {R : Room} {s : State} {m : MethodId} {args : Array Value} {below : List Frame} {meth : Method} {c : Code} {H : Heap} {locs : List Loc} {cells slots : Nat} {Q : State → Prop}
variable {cc bytes : ByteArray} {pc index : Nat} {ls : Array Slot} {rest : List Value} {nL maxL mc ms : Nat} {Ts wl wl' : List Cond} {own host : String} {y : MethodName} {rm : Room} {D : va_G} {wd wb wr wn : va_W} {b : Nat} {A : Nat → Prop} {tys tyb : List (ClassId × FieldType)}
/-- a constructor of no arguments, of a nest mate: any end B -/
theorem ji_callIN {B : (Nat → Prop) → Unit → State → Prop} (S : CallFix p m c cc nL s args Ts own) (hM : ∀ sz : Nat, Met l y wl rm (jPw D [.ref b] wd tys sz) (va_Qv (fun (_ : Unit) => True) (B (va_A wd sz)) (va_A wd sz)) mc ms (va_A wd sz)) (hT : GoodIn Ts wl) (hw : wl = Cond.code y bytes maxL none :: wl') (hlk : va_Nw (.methodLinkNest own index y host) s) (hini : (Cond.initialized y.cls).before args s = true) (hins : (Cond.instanceMethod y).before args s = true) (hyn : y.name = "<init>") (hd : y.cls ≠ "java/lang/invoke/MethodHandle" ∧ y.cls ≠ "java/lang/invoke/VarHandle" ∧ (parseMethodDescriptor y.desc).map (fun d => d.parameters.length) = some 0)
    (hR : (rm.cells = mc ∧ rm.slots = ms) ∧ (rm.frames + 1 ≤ R.frames ∧ 8 + (maxL + 11) + rm.locals ≤ R.locals) ∧ cells + mc ≤ R.cells ∧ slots + ms ≤ R.slots) (hP : va_P D vwCl wb H) (hK : va_K D vwCl tyb s) (hN : jN s) (hD : va_D A wb) (hS : va_S A s.heap H locs) (hA : ∀ q : Nat, s.heap.size ≤ q → A q) (is ts : List Nat) (hi : is.map (fun i => wb[i]?) = wd.map some) (hnd : va_nd is = true) (ht : ts.filterMap (fun i => tyb[i]?) = tys)
    (hl : lv_has ls nL []) (hW : (rest.map fun v => v.category).sum ≤ 8) (hdg : decode cc pc = .ok (.invokespecial index, 3))
    (kk : ∀ (t : State) (H1 : Heap) (locs1 : List Loc), t.heap = H1 → s.vm.Alike t.vm → B (va_A wd H.size) () t → (∀ q : Nat, q < H.size → ¬ va_A wd H.size q → H1[q]? = H[q]?) → (∀ q, va_A wd H.size q → A q) → va_S A s.heap H1 locs1 → W p l e R s m args below meth c H1 locs1 (cells + mc) (slots + ms) Q (F0 m (pc + 3) ls rest)) : W p l e R s m args below meth c H locs cells slots Q (F0 m pc ls (.ref b :: rest)) := by
  have hPc := hP.sub is (jx_fm hi)
  have hKc := hK.sub ts ht
  have hDc := hD.sub is hnd hi
  have hFc := va_free (wc := wd) hD hS hA is hi
  exact va_callv (va_runIN (As := []) (rest := rest) S (hM H.size) ⟨va_cnB 0 S.2.2.2.2 hT hw hR.1.1 hR.1.2 hlk hini hd hR.2.1, hyn, hins⟩ ⟨jPw_blind, fun U hU hW => ⟨rfl, by rw [hU], by rw [hU]; exact hPc, va_K.moved hW.alike hKc, jN.warm hW hN, hDc.weaken (fun _ _ _ _ => trivial)⟩⟩ rfl rfl hl.1 rfl (lv_room hW) hdg ⟨hR.2.2.1, hR.2.2.2⟩) hS (fun q _ h => hFc q h) hFc (fun u t H1 locs1 ht hvm hw hB hz1 hk1 hS1 => kk t H1 locs1 ht hvm hB hk1 hFc hS1)
end JI
end
section
/-! CONSTRUCTORS (laid by wip/p24/rows.py) -/
abbrev rX0_init : Room := { frames := 1, cells := 0, slots := 0, locals := 14 }
theorem inX0_init_X0 : ∀ w ∈ u_ws RX0 TX0 5, w ∈ wsX0_init := by decide +kernel
set_option maxRecDepth 100000 in
set_option maxHeartbeats 8000000 in
theorem c_X0_init {l : Launch} {D : va_G} (aF : Nat) : ∀ sz : Nat, Met l yX0_init wsX0_init rX0_init (jPw D [.ref aF] [(aF, .inr (0, [.long 0, .long 0, .int 0, .int 0, .int 0]))] [] sz) (va_Qv (fun (_ : Unit) => True) (fun (_ : Unit) (t : State) => va_P D vwCl (jA aF 0 0 0 0 0) t.heap ∧ va_K D vwCl [] t ∧ va_D (va_A [(aF, .inr (0, [.long 0, .long 0, .int 0, .int 0, .int 0]))] sz) (jA aF 0 0 0 0 0)) (va_A [(aF, .inr (0, [.long 0, .long 0, .int 0, .int 0, .int 0]))] sz)) 0 0 (va_A [(aF, .inr (0, [.long 0, .long 0, .int 0, .int 0, .int 0]))] sz) := by
  refine jW_of (QQ := fun A => va_Qv (fun (_ : Unit) => True) (fun (_ : Unit) (t : State) => va_P D vwCl (jA aF 0 0 0 0 0) t.heap ∧ va_K D vwCl [] t ∧ va_D A (jA aF 0 0 0 0 0)) A) (cc := cX0_init) (maxL := 1) (ret := none) (by decide) rfl (Nat.le_of_ble_eq_true rfl) ?_
  intro p e s m below meth c ls A S hr hlocks hini hP hK hN hD hS hA hl
  obtain ⟨hx, hb, hml, hown, hts⟩ := id S
  have hl : lv_has ls 1 [(0, .ref aF)] := hl
  refine lv_aload_n hx hb dX0_init_0 rfl (lv_at hl 0 rfl) ?_
  refine W.objInit hx hb hown (hts (.methodLink RX0 3 objectInit) (by decide +kernel)) (hts (.instanceMethod objectInit) (by decide +kernel)) (hts (.code objectInit ⟨#[0xb1]⟩ 1 none) (by decide +kernel)) rfl (by rw [hml]; exact hl.1) rfl dX0_init_1 (Nat.le_of_ble_eq_true rfl) (Nat.le_of_ble_eq_true rfl) ?_
  refine W.eq (g2 := F0 m 4 ls []) rfl ?_
  refine lv_aload_n hx hb dX0_init_4 rfl (lv_at hl 0 rfl) ?_
  refine lv_lconst (v := 0) hx hb dX0_init_5 (by decide) ?_
  refine va_put (D := D) (ci := 0) (v := .long 0) (ty := .long) (C := RX0) (T := TX0) (N := 5) hx hb hts inX0_init_X0 tyX0 tyX0_ok nmX0 hown hK hP hD hS 0 rfl rfl 0 (by decide) (hts (.fieldLink RX0 9 "ArchivistTricks$Archivist" "hand" "J") (by decide +kernel)) (fun _ h9 => h9) rfl (by decide +kernel) rfl rfl (Nat.le_of_ble_eq_true rfl) dX0_init_6 (fun H locs hP hD hS => ?_)
  have hP : va_P D vwCl [(aF, .inr (0, [.long 0, .long 0, .int 0, .int 0, .int 0]))] H := hP
  have hD : va_D A [(aF, .inr (0, [.long 0, .long 0, .int 0, .int 0, .int 0]))] := hD
  refine lv_aload_n hx hb dX0_init_9 rfl (lv_at hl 0 rfl) ?_
  refine lv_lconst (v := 0) hx hb dX0_init_10 (by decide) ?_
  refine va_put (D := D) (ci := 0) (v := .long 0) (ty := .long) (C := RX0) (T := TX0) (N := 5) hx hb hts inX0_init_X0 tyX0 tyX0_ok nmX0 hown hK hP hD hS 0 rfl rfl 1 (by decide) (hts (.fieldLink RX0 15 "ArchivistTricks$Archivist" "taken" "J") (by decide +kernel)) (fun _ h9 => h9) rfl (by decide +kernel) rfl rfl (Nat.le_of_ble_eq_true rfl) dX0_init_11 (fun H locs hP hD hS => ?_)
  have hP : va_P D vwCl [(aF, .inr (0, [.long 0, .long 0, .int 0, .int 0, .int 0]))] H := hP
  have hD : va_D A [(aF, .inr (0, [.long 0, .long 0, .int 0, .int 0, .int 0]))] := hD
  refine lv_aload_n hx hb dX0_init_14 rfl (lv_at hl 0 rfl) ?_
  refine lv_iconst (v := 0) hx hb dX0_init_15 (by decide) ?_
  refine va_put (D := D) (ci := 0) (v := .int 0) (ty := .int) (C := RX0) (T := TX0) (N := 5) hx hb hts inX0_init_X0 tyX0 tyX0_ok nmX0 hown hK hP hD hS 0 rfl rfl 2 (by decide) (hts (.fieldLink RX0 18 "ArchivistTricks$Archivist" "points" "I") (by decide +kernel)) (fun _ h9 => h9) rfl (by decide +kernel) rfl rfl (Nat.le_of_ble_eq_true rfl) dX0_init_16 (fun H locs hP hD hS => ?_)
  have hP : va_P D vwCl [(aF, .inr (0, [.long 0, .long 0, .int 0, .int 0, .int 0]))] H := hP
  have hD : va_D A [(aF, .inr (0, [.long 0, .long 0, .int 0, .int 0, .int 0]))] := hD
  refine lv_aload_n hx hb dX0_init_19 rfl (lv_at hl 0 rfl) ?_
  refine lv_iconst (v := 0) hx hb dX0_init_20 (by decide) ?_
  refine va_put (D := D) (ci := 0) (v := .int 0) (ty := .int) (C := RX0) (T := TX0) (N := 5) hx hb hts inX0_init_X0 tyX0 tyX0_ok nmX0 hown hK hP hD hS 0 rfl rfl 3 (by decide) (hts (.fieldLink RX0 22 "ArchivistTricks$Archivist" "tricks" "I") (by decide +kernel)) (fun _ h9 => h9) rfl (by decide +kernel) rfl rfl (Nat.le_of_ble_eq_true rfl) dX0_init_21 (fun H locs hP hD hS => ?_)
  have hP : va_P D vwCl [(aF, .inr (0, [.long 0, .long 0, .int 0, .int 0, .int 0]))] H := hP
  have hD : va_D A [(aF, .inr (0, [.long 0, .long 0, .int 0, .int 0, .int 0]))] := hD
  refine lv_aload_n hx hb dX0_init_24 rfl (lv_at hl 0 rfl) ?_
  refine lv_iconst (v := 0) hx hb dX0_init_25 (by decide) ?_
  refine va_put (D := D) (ci := 0) (v := .int 0) (ty := .int) (C := RX0) (T := TX0) (N := 5) hx hb hts inX0_init_X0 tyX0 tyX0_ok nmX0 hown hK hP hD hS 0 rfl rfl 4 (by decide) (hts (.fieldLink RX0 25 "ArchivistTricks$Archivist" "gloves" "I") (by decide +kernel)) (fun _ h9 => h9) rfl (by decide +kernel) rfl rfl (Nat.le_of_ble_eq_true rfl) dX0_init_26 (fun H locs hP hD hS => ?_)
  have hP : va_P D vwCl [(aF, .inr (0, [.long 0, .long 0, .int 0, .int 0, .int 0]))] H := hP
  have hD : va_D A [(aF, .inr (0, [.long 0, .long 0, .int 0, .int 0, .int 0]))] := hD
  have hP9 := hP.sub (ws' := [(aF, .inr (0, [.long 0, .long 0, .int 0, .int 0, .int 0]))]) [0] rfl
  have hD9 := hD.sub (ws' := [(aF, .inr (0, [.long 0, .long 0, .int 0, .int 0, .int 0]))]) [0] rfl rfl
  exact W.vret hx hb hr (fun t ht hW => ⟨⟨(), rfl, trivial, by rw [ht]; exact hP9, va_K.moved hW.alike hK, hD9⟩, hS.F ht⟩) hS.2.2 dX0_init_29

abbrev rX2_init : Room := { frames := 2, cells := 3, slots := 52, locals := 34 }
theorem inX2_init_X0 : ∀ w ∈ u_ws RX0 TX0 5, w ∈ wsX2_init := by decide +kernel
theorem inX2_init_X2 : ∀ w ∈ u_ws RX2 TX2 11, w ∈ wsX2_init := by decide +kernel
set_option maxRecDepth 100000 in
set_option maxHeartbeats 8000000 in
theorem c_X2_init {l : Launch} {D : va_G} (a0 : Nat) : ∀ sz : Nat, Met l yX2_init wsX2_init rX2_init (jPw D [.ref a0] [(a0, .inr (2, [.null, .null, .null, .int 0, .int 0, .int 0, .int 0, .int 0, .int 0, .null, .int 0]))] [] sz) (va_Qv (fun (_ : Unit) => True) (fun (_ : Unit) (t : State) => ∃ (aR aF aG : Nat) (cI : ClassId), va_P D vwCl (jC a0 aR aF aG cI (fun _ => 0) 42 (-1) (-1) (-1) 0 0 none 0 0 0 0 0 0 0 0 0 0 0) t.heap ∧ va_K D vwCl [(cI, .int)] t ∧ va_D (va_A [(a0, .inr (2, [.null, .null, .null, .int 0, .int 0, .int 0, .int 0, .int 0, .int 0, .null, .int 0]))] sz) (jC a0 aR aF aG cI (fun _ => 0) 42 (-1) (-1) (-1) 0 0 none 0 0 0 0 0 0 0 0 0 0 0)) (va_A [(a0, .inr (2, [.null, .null, .null, .int 0, .int 0, .int 0, .int 0, .int 0, .int 0, .null, .int 0]))] sz)) 3 52 (va_A [(a0, .inr (2, [.null, .null, .null, .int 0, .int 0, .int 0, .int 0, .int 0, .int 0, .null, .int 0]))] sz) := by
  refine jW_of (QQ := fun A => va_Qv (fun (_ : Unit) => True) (fun (_ : Unit) (t : State) => ∃ (aR aF aG : Nat) (cI : ClassId), va_P D vwCl (jC a0 aR aF aG cI (fun _ => 0) 42 (-1) (-1) (-1) 0 0 none 0 0 0 0 0 0 0 0 0 0 0) t.heap ∧ va_K D vwCl [(cI, .int)] t ∧ va_D A (jC a0 aR aF aG cI (fun _ => 0) 42 (-1) (-1) (-1) 0 0 none 0 0 0 0 0 0 0 0 0 0 0)) A) (cc := cX2_init) (maxL := 1) (ret := none) (by decide) rfl (Nat.le_of_ble_eq_true rfl) ?_
  intro p e s m below meth c ls A S hr hlocks hini hP hK hN hD hS hA hl
  obtain ⟨hx, hb, hml, hown, hts⟩ := id S
  have hl : lv_has ls 1 [(0, .ref a0)] := hl
  refine lv_aload_n hx hb dX2_init_0 rfl (lv_at hl 0 rfl) ?_
  refine W.objInit hx hb hown (hts (.methodLink RX2 3 objectInit) (by decide +kernel)) (hts (.instanceMethod objectInit) (by decide +kernel)) (hts (.code objectInit ⟨#[0xb1]⟩ 1 none) (by decide +kernel)) rfl (by rw [hml]; exact hl.1) rfl dX2_init_1 (Nat.le_of_ble_eq_true rfl) (Nat.le_of_ble_eq_true rfl) ?_
  refine W.eq (g2 := F0 m 4 ls []) rfl ?_
  refine lv_aload_n hx hb dX2_init_4 rfl (lv_at hl 0 rfl) ?_
  refine lv_bipush (v := 42) hx hb dX2_init_5 (by decide) ?_
  refine va_newa (atype := .int) (n := 42) (N' := 42) (a0 := (42, .inl (fun _ => 0))) hx hb (hts (.arrayClass .int) (by decide +kernel)) rfl hK hP hD hS hA (fun _ => rfl) (by decide) (by decide) (Nat.le_of_ble_eq_true rfl) (Nat.le_of_ble_eq_true rfl) (Nat.le_of_ble_eq_true rfl) dX2_init_7 (fun n1 c1 H hK hP hD hS => ?_)
  have hK : va_K D vwCl [(c1, .int)] s := hK
  have hP : va_P D vwCl [(a0, .inr (2, [.null, .null, .null, .int 0, .int 0, .int 0, .int 0, .int 0, .int 0, .null, .int 0])), (n1, .inl (c1, 42, .inl (fun _ => 0)))] H := hP
  have hD : va_D A [(a0, .inr (2, [.null, .null, .null, .int 0, .int 0, .int 0, .int 0, .int 0, .int 0, .null, .int 0])), (n1, .inl (c1, 42, .inl (fun _ => 0)))] := hD
  refine W.widen (k := 1) (n := 42) (Nat.le_of_ble_eq_true rfl) (Nat.le_of_ble_eq_true rfl) ?_
  refine va_putF (D := D) (ci := 2) (v := .ref n1) (ty := .array .int) (C := RX2) (T := TX2) (N := 11) hx hb hts inX2_init_X2 tyX2 tyX2_ok nmX2 hown hK hP hD hS 0 rfl rfl 0 (by decide) (hts (.fieldLink RX2 9 "ArchivistTricks" "row" "[I") (by decide +kernel)) (fun _ h9 => h9) rfl hini rfl (by decide +kernel) rfl rfl (Nat.le_of_ble_eq_true rfl) dX2_init_9 (fun H locs hP hD hS => ?_)
  have hP : va_P D vwCl [(a0, .inr (2, [.ref n1, .null, .null, .int 0, .int 0, .int 0, .int 0, .int 0, .int 0, .null, .int 0])), (n1, .inl (c1, 42, .inl (fun _ => 0)))] H := hP
  have hD : va_D A [(a0, .inr (2, [.ref n1, .null, .null, .int 0, .int 0, .int 0, .int 0, .int 0, .int 0, .null, .int 0])), (n1, .inl (c1, 42, .inl (fun _ => 0)))] := hD
  refine lv_aload_n hx hb dX2_init_12 rfl (lv_at hl 0 rfl) ?_
  refine va_new (ci := 0) (fs := [.long 0, .long 0, .int 0, .int 0, .int 0]) (C := RX0) (T := TX0) (N := 5) hx hb hts inX2_init_X0 tyX0 tyX0_ok hown (hts (.classLink RX2 13 RX0) (by decide +kernel)) (hts (.instantiable RX0 5) (by decide +kernel)) (hts (.initialized RX0) (by decide +kernel)) hK hP hD hS hA rfl (fun j hj => by rcases (show j = 0 ∨ j = 1 ∨ j = 2 ∨ j = 3 ∨ j = 4 by omega) with rfl | rfl | rfl | rfl | rfl <;> rfl) (Nat.le_of_ble_eq_true rfl) (Nat.le_of_ble_eq_true rfl) dX2_init_13 (fun n2 H hP hD hS => ?_)
  have hP : va_P D vwCl [(a0, .inr (2, [.ref n1, .null, .null, .int 0, .int 0, .int 0, .int 0, .int 0, .int 0, .null, .int 0])), (n1, .inl (c1, 42, .inl (fun _ => 0))), (n2, .inr (0, [.long 0, .long 0, .int 0, .int 0, .int 0]))] H := hP
  have hD : va_D A [(a0, .inr (2, [.ref n1, .null, .null, .int 0, .int 0, .int 0, .int 0, .int 0, .int 0, .null, .int 0])), (n1, .inl (c1, 42, .inl (fun _ => 0))), (n2, .inr (0, [.long 0, .long 0, .int 0, .int 0, .int 0]))] := hD
  refine W.widen (k := 2) (n := 47) (Nat.le_of_ble_eq_true rfl) (Nat.le_of_ble_eq_true rfl) ?_
  refine lv_dup hx hb dX2_init_16 rfl ?_
  refine ji_callIN (mc := 0) (ms := 0) (rm := rX0_init) (tys := []) (B := fun A9 (_ : Unit) (t : State) => va_P D vwCl (jA n2 0 0 0 0 0) t.heap ∧ va_K D vwCl [] t ∧ va_D A9 (jA n2 0 0 0 0 0)) (wd := [(n2, .inr (0, [.long 0, .long 0, .int 0, .int 0, .int 0]))]) (rest := [.ref n2, .ref a0]) S (c_X0_init n2) gX2_init_X0_init_n15 rfl hN.2.2.2.2.2.2.1 (hts (.initialized RX0) (by decide +kernel)) (hts (.instanceMethod yX0_init) (by decide +kernel)) rfl (by decide +kernel) ⟨⟨rfl, rfl⟩, ⟨Nat.le_of_ble_eq_true rfl, Nat.le_of_ble_eq_true rfl⟩, Nat.le_of_ble_eq_true rfl, Nat.le_of_ble_eq_true rfl⟩ hP hK hN hD hS hA [2] [] rfl rfl rfl (lv_nil hl) (Nat.le_of_ble_eq_true rfl) dX2_init_17 (fun t H1 locs1 ht hvm hB hk1 hFc hS => ?_)
  obtain ⟨hP1, hK1, hD1⟩ := hB
  rw [ht] at hP1
  obtain ⟨hP, hD⟩ := jw_join (wr := [(a0, .inr (2, [.ref n1, .null, .null, .int 0, .int 0, .int 0, .int 0, .int 0, .int 0, .null, .int 0])), (n1, .inl (c1, 42, .inl (fun _ => 0)))]) (wn := [(a0, .inr (2, [.ref n1, .null, .null, .int 0, .int 0, .int 0, .int 0, .int 0, .int 0, .null, .int 0])), (n1, .inl (c1, 42, .inl (fun _ => 0))), (n2, .inr (0, [.long 0, .long 0, .int 0, .int 0, .int 0]))]) hP hD [2] [0, 1] [0, 1, 2] rfl rfl rfl (by decide) rfl rfl hk1 hFc hP1 hD1
  generalize H1 = H at hP hS ⊢
  have hP : va_P D vwCl [(a0, .inr (2, [.ref n1, .null, .null, .int 0, .int 0, .int 0, .int 0, .int 0, .int 0, .null, .int 0])), (n1, .inl (c1, 42, .inl (fun _ => 0))), (n2, .inr (0, [.long 0, .long 0, .int 0, .int 0, .int 0]))] H := hP
  have hD : va_D A [(a0, .inr (2, [.ref n1, .null, .null, .int 0, .int 0, .int 0, .int 0, .int 0, .int 0, .null, .int 0])), (n1, .inl (c1, 42, .inl (fun _ => 0))), (n2, .inr (0, [.long 0, .long 0, .int 0, .int 0, .int 0]))] := hD
  refine va_putF (D := D) (ci := 2) (v := .ref n2) (ty := .object "ArchivistTricks$Archivist") (C := RX2) (T := TX2) (N := 11) hx hb hts inX2_init_X2 tyX2 tyX2_ok nmX2 hown hK hP hD hS 0 rfl rfl 1 (by decide) (hts (.fieldLink RX2 16 "ArchivistTricks" "first" "LArchivistTricks$Archivist;") (by decide +kernel)) (fun _ h9 => h9) rfl hini rfl (by decide +kernel) rfl rfl (Nat.le_of_ble_eq_true rfl) dX2_init_20 (fun H locs hP hD hS => ?_)
  have hP : va_P D vwCl [(a0, .inr (2, [.ref n1, .ref n2, .null, .int 0, .int 0, .int 0, .int 0, .int 0, .int 0, .null, .int 0])), (n1, .inl (c1, 42, .inl (fun _ => 0))), (n2, .inr (0, [.long 0, .long 0, .int 0, .int 0, .int 0]))] H := hP
  have hD : va_D A [(a0, .inr (2, [.ref n1, .ref n2, .null, .int 0, .int 0, .int 0, .int 0, .int 0, .int 0, .null, .int 0])), (n1, .inl (c1, 42, .inl (fun _ => 0))), (n2, .inr (0, [.long 0, .long 0, .int 0, .int 0, .int 0]))] := hD
  refine lv_aload_n hx hb dX2_init_23 rfl (lv_at hl 0 rfl) ?_
  refine va_new (ci := 0) (fs := [.long 0, .long 0, .int 0, .int 0, .int 0]) (C := RX0) (T := TX0) (N := 5) hx hb hts inX2_init_X0 tyX0 tyX0_ok hown (hts (.classLink RX2 13 RX0) (by decide +kernel)) (hts (.instantiable RX0 5) (by decide +kernel)) (hts (.initialized RX0) (by decide +kernel)) hK hP hD hS hA rfl (fun j hj => by rcases (show j = 0 ∨ j = 1 ∨ j = 2 ∨ j = 3 ∨ j = 4 by omega) with rfl | rfl | rfl | rfl | rfl <;> rfl) (Nat.le_of_ble_eq_true rfl) (Nat.le_of_ble_eq_true rfl) dX2_init_24 (fun n3 H hP hD hS => ?_)
  have hP : va_P D vwCl [(a0, .inr (2, [.ref n1, .ref n2, .null, .int 0, .int 0, .int 0, .int 0, .int 0, .int 0, .null, .int 0])), (n1, .inl (c1, 42, .inl (fun _ => 0))), (n2, .inr (0, [.long 0, .long 0, .int 0, .int 0, .int 0])), (n3, .inr (0, [.long 0, .long 0, .int 0, .int 0, .int 0]))] H := hP
  have hD : va_D A [(a0, .inr (2, [.ref n1, .ref n2, .null, .int 0, .int 0, .int 0, .int 0, .int 0, .int 0, .null, .int 0])), (n1, .inl (c1, 42, .inl (fun _ => 0))), (n2, .inr (0, [.long 0, .long 0, .int 0, .int 0, .int 0])), (n3, .inr (0, [.long 0, .long 0, .int 0, .int 0, .int 0]))] := hD
  refine W.widen (k := 3) (n := 52) (Nat.le_of_ble_eq_true rfl) (Nat.le_of_ble_eq_true rfl) ?_
  refine lv_dup hx hb dX2_init_27 rfl ?_
  refine ji_callIN (mc := 0) (ms := 0) (rm := rX0_init) (tys := []) (B := fun A9 (_ : Unit) (t : State) => va_P D vwCl (jA n3 0 0 0 0 0) t.heap ∧ va_K D vwCl [] t ∧ va_D A9 (jA n3 0 0 0 0 0)) (wd := [(n3, .inr (0, [.long 0, .long 0, .int 0, .int 0, .int 0]))]) (rest := [.ref n3, .ref a0]) S (c_X0_init n3) gX2_init_X0_init_n15 rfl hN.2.2.2.2.2.2.1 (hts (.initialized RX0) (by decide +kernel)) (hts (.instanceMethod yX0_init) (by decide +kernel)) rfl (by decide +kernel) ⟨⟨rfl, rfl⟩, ⟨Nat.le_of_ble_eq_true rfl, Nat.le_of_ble_eq_true rfl⟩, Nat.le_of_ble_eq_true rfl, Nat.le_of_ble_eq_true rfl⟩ hP hK hN hD hS hA [3] [] rfl rfl rfl (lv_nil hl) (Nat.le_of_ble_eq_true rfl) dX2_init_28 (fun t H1 locs1 ht hvm hB hk1 hFc hS => ?_)
  obtain ⟨hP1, hK1, hD1⟩ := hB
  rw [ht] at hP1
  obtain ⟨hP, hD⟩ := jw_join (wr := [(a0, .inr (2, [.ref n1, .ref n2, .null, .int 0, .int 0, .int 0, .int 0, .int 0, .int 0, .null, .int 0])), (n1, .inl (c1, 42, .inl (fun _ => 0))), (n2, .inr (0, [.long 0, .long 0, .int 0, .int 0, .int 0]))]) (wn := [(a0, .inr (2, [.ref n1, .ref n2, .null, .int 0, .int 0, .int 0, .int 0, .int 0, .int 0, .null, .int 0])), (n1, .inl (c1, 42, .inl (fun _ => 0))), (n2, .inr (0, [.long 0, .long 0, .int 0, .int 0, .int 0])), (n3, .inr (0, [.long 0, .long 0, .int 0, .int 0, .int 0]))]) hP hD [3] [0, 1, 2] [0, 1, 2, 3] rfl rfl rfl (by decide) rfl rfl hk1 hFc hP1 hD1
  generalize H1 = H at hP hS ⊢
  have hP : va_P D vwCl [(a0, .inr (2, [.ref n1, .ref n2, .null, .int 0, .int 0, .int 0, .int 0, .int 0, .int 0, .null, .int 0])), (n1, .inl (c1, 42, .inl (fun _ => 0))), (n2, .inr (0, [.long 0, .long 0, .int 0, .int 0, .int 0])), (n3, .inr (0, [.long 0, .long 0, .int 0, .int 0, .int 0]))] H := hP
  have hD : va_D A [(a0, .inr (2, [.ref n1, .ref n2, .null, .int 0, .int 0, .int 0, .int 0, .int 0, .int 0, .null, .int 0])), (n1, .inl (c1, 42, .inl (fun _ => 0))), (n2, .inr (0, [.long 0, .long 0, .int 0, .int 0, .int 0])), (n3, .inr (0, [.long 0, .long 0, .int 0, .int 0, .int 0]))] := hD
  refine va_putF (D := D) (ci := 2) (v := .ref n3) (ty := .object "ArchivistTricks$Archivist") (C := RX2) (T := TX2) (N := 11) hx hb hts inX2_init_X2 tyX2 tyX2_ok nmX2 hown hK hP hD hS 0 rfl rfl 2 (by decide) (hts (.fieldLink RX2 20 "ArchivistTricks" "second" "LArchivistTricks$Archivist;") (by decide +kernel)) (fun _ h9 => h9) rfl hini rfl (by decide +kernel) rfl rfl (Nat.le_of_ble_eq_true rfl) dX2_init_31 (fun H locs hP hD hS => ?_)
  have hP : va_P D vwCl [(a0, .inr (2, [.ref n1, .ref n2, .ref n3, .int 0, .int 0, .int 0, .int 0, .int 0, .int 0, .null, .int 0])), (n1, .inl (c1, 42, .inl (fun _ => 0))), (n2, .inr (0, [.long 0, .long 0, .int 0, .int 0, .int 0])), (n3, .inr (0, [.long 0, .long 0, .int 0, .int 0, .int 0]))] H := hP
  have hD : va_D A [(a0, .inr (2, [.ref n1, .ref n2, .ref n3, .int 0, .int 0, .int 0, .int 0, .int 0, .int 0, .null, .int 0])), (n1, .inl (c1, 42, .inl (fun _ => 0))), (n2, .inr (0, [.long 0, .long 0, .int 0, .int 0, .int 0])), (n3, .inr (0, [.long 0, .long 0, .int 0, .int 0, .int 0]))] := hD
  refine lv_aload_n hx hb dX2_init_34 rfl (lv_at hl 0 rfl) ?_
  refine lv_bipush (v := 42) hx hb dX2_init_35 (by decide) ?_
  refine va_put (D := D) (ci := 2) (v := .int 42) (ty := .int) (C := RX2) (T := TX2) (N := 11) hx hb hts inX2_init_X2 tyX2 tyX2_ok nmX2 hown hK hP hD hS 0 rfl rfl 3 (by decide) (hts (.fieldLink RX2 23 "ArchivistTricks" "drawn" "I") (by decide +kernel)) (fun _ h9 => h9) rfl (by decide +kernel) rfl rfl (Nat.le_of_ble_eq_true rfl) dX2_init_37 (fun H locs hP hD hS => ?_)
  have hP : va_P D vwCl [(a0, .inr (2, [.ref n1, .ref n2, .ref n3, .int 42, .int 0, .int 0, .int 0, .int 0, .int 0, .null, .int 0])), (n1, .inl (c1, 42, .inl (fun _ => 0))), (n2, .inr (0, [.long 0, .long 0, .int 0, .int 0, .int 0])), (n3, .inr (0, [.long 0, .long 0, .int 0, .int 0, .int 0]))] H := hP
  have hD : va_D A [(a0, .inr (2, [.ref n1, .ref n2, .ref n3, .int 42, .int 0, .int 0, .int 0, .int 0, .int 0, .null, .int 0])), (n1, .inl (c1, 42, .inl (fun _ => 0))), (n2, .inr (0, [.long 0, .long 0, .int 0, .int 0, .int 0])), (n3, .inr (0, [.long 0, .long 0, .int 0, .int 0, .int 0]))] := hD
  refine lv_aload_n hx hb dX2_init_40 rfl (lv_at hl 0 rfl) ?_
  refine lv_iconst (v := (-1)) hx hb dX2_init_41 (by decide) ?_
  refine va_put (D := D) (ci := 2) (v := .int (-1)) (ty := .int) (C := RX2) (T := TX2) (N := 11) hx hb hts inX2_init_X2 tyX2 tyX2_ok nmX2 hown hK hP hD hS 0 rfl rfl 4 (by decide) (hts (.fieldLink RX2 27 "ArchivistTricks" "trumpProvenance" "I") (by decide +kernel)) (fun _ h9 => h9) rfl (by decide +kernel) rfl rfl (Nat.le_of_ble_eq_true rfl) dX2_init_42 (fun H locs hP hD hS => ?_)
  have hP : va_P D vwCl [(a0, .inr (2, [.ref n1, .ref n2, .ref n3, .int 42, .int (-1), .int 0, .int 0, .int 0, .int 0, .null, .int 0])), (n1, .inl (c1, 42, .inl (fun _ => 0))), (n2, .inr (0, [.long 0, .long 0, .int 0, .int 0, .int 0])), (n3, .inr (0, [.long 0, .long 0, .int 0, .int 0, .int 0]))] H := hP
  have hD : va_D A [(a0, .inr (2, [.ref n1, .ref n2, .ref n3, .int 42, .int (-1), .int 0, .int 0, .int 0, .int 0, .null, .int 0])), (n1, .inl (c1, 42, .inl (fun _ => 0))), (n2, .inr (0, [.long 0, .long 0, .int 0, .int 0, .int 0])), (n3, .inr (0, [.long 0, .long 0, .int 0, .int 0, .int 0]))] := hD
  refine lv_aload_n hx hb dX2_init_45 rfl (lv_at hl 0 rfl) ?_
  refine lv_iconst (v := (-1)) hx hb dX2_init_46 (by decide) ?_
  refine va_put (D := D) (ci := 2) (v := .int (-1)) (ty := .int) (C := RX2) (T := TX2) (N := 11) hx hb hts inX2_init_X2 tyX2 tyX2_ok nmX2 hown hK hP hD hS 0 rfl rfl 5 (by decide) (hts (.fieldLink RX2 30 "ArchivistTricks" "ledCard" "I") (by decide +kernel)) (fun _ h9 => h9) rfl (by decide +kernel) rfl rfl (Nat.le_of_ble_eq_true rfl) dX2_init_47 (fun H locs hP hD hS => ?_)
  have hP : va_P D vwCl [(a0, .inr (2, [.ref n1, .ref n2, .ref n3, .int 42, .int (-1), .int (-1), .int 0, .int 0, .int 0, .null, .int 0])), (n1, .inl (c1, 42, .inl (fun _ => 0))), (n2, .inr (0, [.long 0, .long 0, .int 0, .int 0, .int 0])), (n3, .inr (0, [.long 0, .long 0, .int 0, .int 0, .int 0]))] H := hP
  have hD : va_D A [(a0, .inr (2, [.ref n1, .ref n2, .ref n3, .int 42, .int (-1), .int (-1), .int 0, .int 0, .int 0, .null, .int 0])), (n1, .inl (c1, 42, .inl (fun _ => 0))), (n2, .inr (0, [.long 0, .long 0, .int 0, .int 0, .int 0])), (n3, .inr (0, [.long 0, .long 0, .int 0, .int 0, .int 0]))] := hD
  refine lv_aload_n hx hb dX2_init_50 rfl (lv_at hl 0 rfl) ?_
  refine lv_iconst (v := (-1)) hx hb dX2_init_51 (by decide) ?_
  refine va_put (D := D) (ci := 2) (v := .int (-1)) (ty := .int) (C := RX2) (T := TX2) (N := 11) hx hb hts inX2_init_X2 tyX2 tyX2_ok nmX2 hown hK hP hD hS 0 rfl rfl 6 (by decide) (hts (.fieldLink RX2 33 "ArchivistTricks" "mover" "I") (by decide +kernel)) (fun _ h9 => h9) rfl (by decide +kernel) rfl rfl (Nat.le_of_ble_eq_true rfl) dX2_init_52 (fun H locs hP hD hS => ?_)
  have hP : va_P D vwCl [(a0, .inr (2, [.ref n1, .ref n2, .ref n3, .int 42, .int (-1), .int (-1), .int (-1), .int 0, .int 0, .null, .int 0])), (n1, .inl (c1, 42, .inl (fun _ => 0))), (n2, .inr (0, [.long 0, .long 0, .int 0, .int 0, .int 0])), (n3, .inr (0, [.long 0, .long 0, .int 0, .int 0, .int 0]))] H := hP
  have hD : va_D A [(a0, .inr (2, [.ref n1, .ref n2, .ref n3, .int 42, .int (-1), .int (-1), .int (-1), .int 0, .int 0, .null, .int 0])), (n1, .inl (c1, 42, .inl (fun _ => 0))), (n2, .inr (0, [.long 0, .long 0, .int 0, .int 0, .int 0])), (n3, .inr (0, [.long 0, .long 0, .int 0, .int 0, .int 0]))] := hD
  refine lv_aload_n hx hb dX2_init_55 rfl (lv_at hl 0 rfl) ?_
  refine lv_iconst (v := 0) hx hb dX2_init_56 (by decide) ?_
  refine va_put (D := D) (ci := 2) (v := .int 0) (ty := .int) (C := RX2) (T := TX2) (N := 11) hx hb hts inX2_init_X2 tyX2 tyX2_ok nmX2 hown hK hP hD hS 0 rfl rfl 7 (by decide) (hts (.fieldLink RX2 36 "ArchivistTricks" "firstWins" "I") (by decide +kernel)) (fun _ h9 => h9) rfl (by decide +kernel) rfl rfl (Nat.le_of_ble_eq_true rfl) dX2_init_57 (fun H locs hP hD hS => ?_)
  have hP : va_P D vwCl [(a0, .inr (2, [.ref n1, .ref n2, .ref n3, .int 42, .int (-1), .int (-1), .int (-1), .int 0, .int 0, .null, .int 0])), (n1, .inl (c1, 42, .inl (fun _ => 0))), (n2, .inr (0, [.long 0, .long 0, .int 0, .int 0, .int 0])), (n3, .inr (0, [.long 0, .long 0, .int 0, .int 0, .int 0]))] H := hP
  have hD : va_D A [(a0, .inr (2, [.ref n1, .ref n2, .ref n3, .int 42, .int (-1), .int (-1), .int (-1), .int 0, .int 0, .null, .int 0])), (n1, .inl (c1, 42, .inl (fun _ => 0))), (n2, .inr (0, [.long 0, .long 0, .int 0, .int 0, .int 0])), (n3, .inr (0, [.long 0, .long 0, .int 0, .int 0, .int 0]))] := hD
  refine lv_aload_n hx hb dX2_init_60 rfl (lv_at hl 0 rfl) ?_
  refine lv_iconst (v := 0) hx hb dX2_init_61 (by decide) ?_
  refine va_put (D := D) (ci := 2) (v := .int 0) (ty := .int) (C := RX2) (T := TX2) (N := 11) hx hb hts inX2_init_X2 tyX2 tyX2_ok nmX2 hown hK hP hD hS 0 rfl rfl 8 (by decide) (hts (.fieldLink RX2 39 "ArchivistTricks" "secondWins" "I") (by decide +kernel)) (fun _ h9 => h9) rfl (by decide +kernel) rfl rfl (Nat.le_of_ble_eq_true rfl) dX2_init_62 (fun H locs hP hD hS => ?_)
  have hP : va_P D vwCl [(a0, .inr (2, [.ref n1, .ref n2, .ref n3, .int 42, .int (-1), .int (-1), .int (-1), .int 0, .int 0, .null, .int 0])), (n1, .inl (c1, 42, .inl (fun _ => 0))), (n2, .inr (0, [.long 0, .long 0, .int 0, .int 0, .int 0])), (n3, .inr (0, [.long 0, .long 0, .int 0, .int 0, .int 0]))] H := hP
  have hD : va_D A [(a0, .inr (2, [.ref n1, .ref n2, .ref n3, .int 42, .int (-1), .int (-1), .int (-1), .int 0, .int 0, .null, .int 0])), (n1, .inl (c1, 42, .inl (fun _ => 0))), (n2, .inr (0, [.long 0, .long 0, .int 0, .int 0, .int 0])), (n3, .inr (0, [.long 0, .long 0, .int 0, .int 0, .int 0]))] := hD
  refine lv_aload_n hx hb dX2_init_65 rfl (lv_at hl 0 rfl) ?_
  refine lv_null hx hb dX2_init_66 ?_
  refine va_put (D := D) (ci := 2) (v := .null) (ty := .object "ArchivistTricks$Ending") (C := RX2) (T := TX2) (N := 11) hx hb hts inX2_init_X2 tyX2 tyX2_ok nmX2 hown hK hP hD hS 0 rfl rfl 9 (by decide) (hts (.fieldLink RX2 42 "ArchivistTricks" "ending" "LArchivistTricks$Ending;") (by decide +kernel)) (fun _ h9 => h9) rfl (by decide +kernel) rfl rfl (Nat.le_of_ble_eq_true rfl) dX2_init_67 (fun H locs hP hD hS => ?_)
  have hP : va_P D vwCl [(a0, .inr (2, [.ref n1, .ref n2, .ref n3, .int 42, .int (-1), .int (-1), .int (-1), .int 0, .int 0, .null, .int 0])), (n1, .inl (c1, 42, .inl (fun _ => 0))), (n2, .inr (0, [.long 0, .long 0, .int 0, .int 0, .int 0])), (n3, .inr (0, [.long 0, .long 0, .int 0, .int 0, .int 0]))] H := hP
  have hD : va_D A [(a0, .inr (2, [.ref n1, .ref n2, .ref n3, .int 42, .int (-1), .int (-1), .int (-1), .int 0, .int 0, .null, .int 0])), (n1, .inl (c1, 42, .inl (fun _ => 0))), (n2, .inr (0, [.long 0, .long 0, .int 0, .int 0, .int 0])), (n3, .inr (0, [.long 0, .long 0, .int 0, .int 0, .int 0]))] := hD
  refine lv_aload_n hx hb dX2_init_70 rfl (lv_at hl 0 rfl) ?_
  refine lv_iconst (v := 0) hx hb dX2_init_71 (by decide) ?_
  refine va_put (D := D) (ci := 2) (v := .int 0) (ty := .boolean) (C := RX2) (T := TX2) (N := 11) hx hb hts inX2_init_X2 tyX2 tyX2_ok nmX2 hown hK hP hD hS 0 rfl rfl 10 (by decide) (hts (.fieldLink RX2 46 "ArchivistTricks" "endingBegun" "Z") (by decide +kernel)) (fun _ h9 => h9) rfl (by decide +kernel) rfl rfl (Nat.le_of_ble_eq_true rfl) dX2_init_72 (fun H locs hP hD hS => ?_)
  have hP : va_P D vwCl [(a0, .inr (2, [.ref n1, .ref n2, .ref n3, .int 42, .int (-1), .int (-1), .int (-1), .int 0, .int 0, .null, .int 0])), (n1, .inl (c1, 42, .inl (fun _ => 0))), (n2, .inr (0, [.long 0, .long 0, .int 0, .int 0, .int 0])), (n3, .inr (0, [.long 0, .long 0, .int 0, .int 0, .int 0]))] H := hP
  have hD : va_D A [(a0, .inr (2, [.ref n1, .ref n2, .ref n3, .int 42, .int (-1), .int (-1), .int (-1), .int 0, .int 0, .null, .int 0])), (n1, .inl (c1, 42, .inl (fun _ => 0))), (n2, .inr (0, [.long 0, .long 0, .int 0, .int 0, .int 0])), (n3, .inr (0, [.long 0, .long 0, .int 0, .int 0, .int 0]))] := hD
  have hP9 := hP.sub (ws' := [(a0, .inr (2, [.ref n1, .ref n2, .ref n3, .int 42, .int (-1), .int (-1), .int (-1), .int 0, .int 0, .null, .int 0])), (n2, .inr (0, [.long 0, .long 0, .int 0, .int 0, .int 0])), (n3, .inr (0, [.long 0, .long 0, .int 0, .int 0, .int 0])), (n1, .inl (c1, 42, .inl (fun _ => 0)))]) [0, 2, 3, 1] rfl
  have hD9 := hD.sub (ws' := [(a0, .inr (2, [.ref n1, .ref n2, .ref n3, .int 42, .int (-1), .int (-1), .int (-1), .int 0, .int 0, .null, .int 0])), (n2, .inr (0, [.long 0, .long 0, .int 0, .int 0, .int 0])), (n3, .inr (0, [.long 0, .long 0, .int 0, .int 0, .int 0])), (n1, .inl (c1, 42, .inl (fun _ => 0)))]) [0, 2, 3, 1] rfl rfl
  exact W.vret hx hb hr (fun t ht hW => ⟨⟨(), rfl, trivial, n1, n2, n3, c1, by rw [ht]; exact hP9, va_K.moved hW.alike hK, hD9⟩, hS.F ht⟩) hS.2.2 dX2_init_75
end
section
/-! FROM WHOLE: the rows on the cards that speak of no reference that is there (laid by wip/p24/closure.py) -/
def j_X3_isCard (x0 : Int32) : Int32 := (if x0 < 0 then 0 else (if 42 ≤ x0 then 0 else 1))
def j_X3_isArchivist (x0 : Int32) : Int32 := (if x0 = 0 then 1 else (if x0 = 1 then 1 else 0))
def j_X3_isMildew (x0 : Int32) : Int32 := (if x0 < 40 then 0 else 1)
def j_X3_provenance (x0 : Int32) : Int32 := x0 / 10
def j_X3_worth (x0 : Int32) : Int32 := (if j_X3_isMildew x0 = 0 then 10 - (x0 - x0 / 10 * 10) else (-5))
def j_X3_worthTo (x0 : Int32) (x1 : Int32) : Int32 := (if x1 = 0 then j_X3_worth x0 else (if j_X3_isMildew x0 = 0 then j_X3_worth x0 else 0))
def j_X3_isTrump (utr : Int32) (x0 : Int32) : Int32 := (if j_X3_isMildew x0 = 0 then (if j_X3_provenance x0 = utr then 1 else 0) else 0)
def j_X3_takes (utr : Int32) (x0 : Int32) (x1 : Int32) : Int32 := (if j_X3_isMildew x1 = 0 then (if j_X3_isMildew x0 = 0 then (if j_X3_provenance x1 = j_X3_provenance x0 then (if x1 - x1 / 10 * 10 ≤ x0 - x0 / 10 * 10 then 0 else 1) else (if j_X3_isTrump utr x0 = 0 then 0 else (if j_X3_isTrump utr x1 = 0 then 1 else 0))) else 0) else (if j_X3_isMildew x0 = 0 then 1 else 0))
def j_X3_inPile (udrawn : Int32) (udealt : Int32) : Int32 := (if udealt = 0 then 0 else 30 - udrawn)
def j_X3_howMany_4 (uplace : Nat → Int32) (udealt : Int32) (x0 : Int32) : Nat → Nat → Int32 → Int32
  | 0, i, y2 => y2
  | n + 1, i, y2 => (if udealt = 0 then y2 else (if uplace (nI i).toNatClampNeg = x0 then j_X3_howMany_4 uplace udealt x0 n (i + 1) (y2 + 1) else j_X3_howMany_4 uplace udealt x0 n (i + 1) (y2 + 0)))
def j_X3_howMany (uplace : Nat → Int32) (udealt : Int32) (x0 : Int32) : Int32 := j_X3_howMany_4 uplace udealt x0 42 0 0
def j_X3_hasOf_5 (uplace : Nat → Int32) (x0 : Int32) (x1 : Int32) : Nat → Nat → Int32 → Int32
  | 0, i, y3 => y3
  | n + 1, i, y3 => (if y3 = 0 then (if uplace (nI i).toNatClampNeg = x0 then (if j_X3_provenance (nI i) = x1 then j_X3_hasOf_5 uplace x0 x1 n (i + 1) 1 else j_X3_hasOf_5 uplace x0 x1 n (i + 1) 0) else j_X3_hasOf_5 uplace x0 x1 n (i + 1) 0) else j_X3_hasOf_5 uplace x0 x1 n (i + 1) 1)
def j_X3_hasOf (uplace : Nat → Int32) (x0 : Int32) (x1 : Int32) : Int32 := j_X3_hasOf_5 uplace x0 x1 40 0 0
def j_X3_hasDated (uplace : Nat → Int32) (x0 : Int32) : Int32 := (if j_X3_hasOf uplace x0 0 = 0 then (if j_X3_hasOf uplace x0 1 = 0 then (if j_X3_hasOf uplace x0 2 = 0 then (if j_X3_hasOf uplace x0 3 = 0 then 0 else 1) else 1) else 1) else 1)
def j_X3_why (uplace : Nat → Int32) (udrawn : Int32) (udealt : Int32) (uon : Int32) (uturn : Int32) (uled : Int32) (utr : Int32) (x0 : Int32) : Int32 := (if uon = 0 then 1 else (if uplace (x0).toNatClampNeg = uturn then (if 0 ≤ uled then (if 0 < j_X3_inPile udrawn udealt then 0 else (if j_X3_isMildew uled = 0 then (if j_X3_hasOf uplace uturn (j_X3_provenance uled) = 0 then (if j_X3_hasOf uplace uturn utr = 0 then 0 else (if j_X3_isTrump utr x0 = 0 then 5 else 0)) else (if j_X3_isMildew x0 = 0 then (if j_X3_provenance x0 = j_X3_provenance uled then 0 else 4) else 4)) else 0)) else (if j_X3_isMildew x0 = 0 then 0 else (if j_X3_hasDated uplace uturn = 0 then 0 else 3))) else 2))
def j_X3_draws_uplace (uplace : Nat → Int32) (urow : Nat → Int32) (udrawn : Int32) (udealt : Int32) (x0 : Int32) : Nat → Int32 := (if j_X3_inPile udrawn udealt ≤ 0 then uplace else upd uplace (urow (((if 29 ≤ udrawn then 12 else 13 + udrawn) : Int32)).toNatClampNeg).toNatClampNeg x0)
def j_X3_draws_udrawn (udrawn : Int32) (udealt : Int32) : Int32 := (if j_X3_inPile udrawn udealt ≤ 0 then udrawn else udrawn + 1)
def j_X3_ends (uturn : Int32) (uled : Int32) (utr : Int32) (x0 : Int32) : Int32 := ((if j_X3_takes utr x0 uled = 0 then 1 - uturn else uturn) : Int32)
def j_X3_ends_uplace (uplace : Nat → Int32) (urow : Nat → Int32) (udrawn : Int32) (udealt : Int32) (uturn : Int32) (uled : Int32) (utr : Int32) (x0 : Int32) : Nat → Int32 := j_X3_draws_uplace (j_X3_draws_uplace (upd (upd uplace x0.toNatClampNeg (4 + ((if j_X3_takes utr x0 uled = 0 then 1 - uturn else uturn) : Int32))) uled.toNatClampNeg (4 + ((if j_X3_takes utr x0 uled = 0 then 1 - uturn else uturn) : Int32))) urow udrawn udealt ((if j_X3_takes utr x0 uled = 0 then 1 - uturn else uturn) : Int32)) urow (j_X3_draws_udrawn udrawn udealt) udealt (1 - ((if j_X3_takes utr x0 uled = 0 then 1 - uturn else uturn) : Int32))
def j_X3_ends_upts (upts : Nat → Int32) (uglv : Nat → Int32) (uturn : Int32) (uled : Int32) (utr : Int32) (x0 : Int32) : Nat → Int32 := upd upts ((if j_X3_takes utr x0 uled = 0 then 1 - uturn else uturn) : Int32).toNatClampNeg ((upts (((if j_X3_takes utr x0 uled = 0 then 1 - uturn else uturn) : Int32)).toNatClampNeg) + ((j_X3_worthTo x0 ((if uglv (((if j_X3_takes utr x0 uled = 0 then 1 - uturn else uturn) : Int32)).toNatClampNeg = 1 then 1 else 0) : Int32)) + (j_X3_worthTo uled ((if uglv (((if j_X3_takes utr x0 uled = 0 then 1 - uturn else uturn) : Int32)).toNatClampNeg = 1 then 1 else 0) : Int32))))
def j_X3_ends_utks (utks : Nat → Int32) (uturn : Int32) (uled : Int32) (utr : Int32) (x0 : Int32) : Nat → Int32 := upd utks ((if j_X3_takes utr x0 uled = 0 then 1 - uturn else uturn) : Int32).toNatClampNeg ((utks (((if j_X3_takes utr x0 uled = 0 then 1 - uturn else uturn) : Int32)).toNatClampNeg) + 1)
def j_X3_ends_uglv (uglv : Nat → Int32) : Nat → Int32 := upd (upd uglv (0 : Int32).toNatClampNeg ((if uglv (0 : Int32).toNatClampNeg = 1 then 2 else uglv (0 : Int32).toNatClampNeg) : Int32)) (1 : Int32).toNatClampNeg ((if (upd uglv (0 : Int32).toNatClampNeg ((if uglv (0 : Int32).toNatClampNeg = 1 then 2 else uglv (0 : Int32).toNatClampNeg) : Int32)) (1 : Int32).toNatClampNeg = 1 then 2 else (upd uglv (0 : Int32).toNatClampNeg ((if uglv (0 : Int32).toNatClampNeg = 1 then 2 else uglv (0 : Int32).toNatClampNeg) : Int32)) (1 : Int32).toNatClampNeg) : Int32)
def j_X3_ends_uwin (uplace : Nat → Int32) (urow : Nat → Int32) (upts : Nat → Int32) (uglv : Nat → Int32) (uwin : Nat → Int32) (udrawn : Int32) (udealt : Int32) (uturn : Int32) (uled : Int32) (utr : Int32) (x0 : Int32) : Nat → Int32 := (if (j_X3_howMany (j_X3_draws_uplace (j_X3_draws_uplace (upd (upd uplace x0.toNatClampNeg (4 + ((if j_X3_takes utr x0 uled = 0 then 1 - uturn else uturn) : Int32))) uled.toNatClampNeg (4 + ((if j_X3_takes utr x0 uled = 0 then 1 - uturn else uturn) : Int32))) urow udrawn udealt ((if j_X3_takes utr x0 uled = 0 then 1 - uturn else uturn) : Int32)) urow (j_X3_draws_udrawn udrawn udealt) udealt (1 - ((if j_X3_takes utr x0 uled = 0 then 1 - uturn else uturn) : Int32))) udealt 0) + (j_X3_howMany (j_X3_draws_uplace (j_X3_draws_uplace (upd (upd uplace x0.toNatClampNeg (4 + ((if j_X3_takes utr x0 uled = 0 then 1 - uturn else uturn) : Int32))) uled.toNatClampNeg (4 + ((if j_X3_takes utr x0 uled = 0 then 1 - uturn else uturn) : Int32))) urow udrawn udealt ((if j_X3_takes utr x0 uled = 0 then 1 - uturn else uturn) : Int32)) urow (j_X3_draws_udrawn udrawn udealt) udealt (1 - ((if j_X3_takes utr x0 uled = 0 then 1 - uturn else uturn) : Int32))) udealt 1) = 0 then upd (upd uwin (0 : Int32).toNatClampNeg ((uwin (0 : Int32).toNatClampNeg) + ((if (upd upts ((if j_X3_takes utr x0 uled = 0 then 1 - uturn else uturn) : Int32).toNatClampNeg ((upts (((if j_X3_takes utr x0 uled = 0 then 1 - uturn else uturn) : Int32)).toNatClampNeg) + ((j_X3_worthTo x0 ((if uglv (((if j_X3_takes utr x0 uled = 0 then 1 - uturn else uturn) : Int32)).toNatClampNeg = 1 then 1 else 0) : Int32)) + (j_X3_worthTo uled ((if uglv (((if j_X3_takes utr x0 uled = 0 then 1 - uturn else uturn) : Int32)).toNatClampNeg = 1 then 1 else 0) : Int32))))) (0 : Int32).toNatClampNeg ≤ (upd upts ((if j_X3_takes utr x0 uled = 0 then 1 - uturn else uturn) : Int32).toNatClampNeg ((upts (((if j_X3_takes utr x0 uled = 0 then 1 - uturn else uturn) : Int32)).toNatClampNeg) + ((j_X3_worthTo x0 ((if uglv (((if j_X3_takes utr x0 uled = 0 then 1 - uturn else uturn) : Int32)).toNatClampNeg = 1 then 1 else 0) : Int32)) + (j_X3_worthTo uled ((if uglv (((if j_X3_takes utr x0 uled = 0 then 1 - uturn else uturn) : Int32)).toNatClampNeg = 1 then 1 else 0) : Int32))))) (1 : Int32).toNatClampNeg then 0 else 1) : Int32))) (1 : Int32).toNatClampNeg (((upd uwin (0 : Int32).toNatClampNeg ((uwin (0 : Int32).toNatClampNeg) + ((if (upd upts ((if j_X3_takes utr x0 uled = 0 then 1 - uturn else uturn) : Int32).toNatClampNeg ((upts (((if j_X3_takes utr x0 uled = 0 then 1 - uturn else uturn) : Int32)).toNatClampNeg) + ((j_X3_worthTo x0 ((if uglv (((if j_X3_takes utr x0 uled = 0 then 1 - uturn else uturn) : Int32)).toNatClampNeg = 1 then 1 else 0) : Int32)) + (j_X3_worthTo uled ((if uglv (((if j_X3_takes utr x0 uled = 0 then 1 - uturn else uturn) : Int32)).toNatClampNeg = 1 then 1 else 0) : Int32))))) (0 : Int32).toNatClampNeg ≤ (upd upts ((if j_X3_takes utr x0 uled = 0 then 1 - uturn else uturn) : Int32).toNatClampNeg ((upts (((if j_X3_takes utr x0 uled = 0 then 1 - uturn else uturn) : Int32)).toNatClampNeg) + ((j_X3_worthTo x0 ((if uglv (((if j_X3_takes utr x0 uled = 0 then 1 - uturn else uturn) : Int32)).toNatClampNeg = 1 then 1 else 0) : Int32)) + (j_X3_worthTo uled ((if uglv (((if j_X3_takes utr x0 uled = 0 then 1 - uturn else uturn) : Int32)).toNatClampNeg = 1 then 1 else 0) : Int32))))) (1 : Int32).toNatClampNeg then 0 else 1) : Int32))) (1 : Int32).toNatClampNeg) + ((if (upd upts ((if j_X3_takes utr x0 uled = 0 then 1 - uturn else uturn) : Int32).toNatClampNeg ((upts (((if j_X3_takes utr x0 uled = 0 then 1 - uturn else uturn) : Int32)).toNatClampNeg) + ((j_X3_worthTo x0 ((if uglv (((if j_X3_takes utr x0 uled = 0 then 1 - uturn else uturn) : Int32)).toNatClampNeg = 1 then 1 else 0) : Int32)) + (j_X3_worthTo uled ((if uglv (((if j_X3_takes utr x0 uled = 0 then 1 - uturn else uturn) : Int32)).toNatClampNeg = 1 then 1 else 0) : Int32))))) (1 : Int32).toNatClampNeg ≤ (upd upts ((if j_X3_takes utr x0 uled = 0 then 1 - uturn else uturn) : Int32).toNatClampNeg ((upts (((if j_X3_takes utr x0 uled = 0 then 1 - uturn else uturn) : Int32)).toNatClampNeg) + ((j_X3_worthTo x0 ((if uglv (((if j_X3_takes utr x0 uled = 0 then 1 - uturn else uturn) : Int32)).toNatClampNeg = 1 then 1 else 0) : Int32)) + (j_X3_worthTo uled ((if uglv (((if j_X3_takes utr x0 uled = 0 then 1 - uturn else uturn) : Int32)).toNatClampNeg = 1 then 1 else 0) : Int32))))) (0 : Int32).toNatClampNeg then 0 else 1) : Int32)) else uwin)
def j_X3_ends_udrawn (udrawn : Int32) (udealt : Int32) : Int32 := j_X3_draws_udrawn (j_X3_draws_udrawn udrawn udealt) udealt
def j_X3_ends_uon (uplace : Nat → Int32) (urow : Nat → Int32) (udrawn : Int32) (udealt : Int32) (uon : Int32) (uturn : Int32) (uled : Int32) (utr : Int32) (x0 : Int32) : Int32 := (if (j_X3_howMany (j_X3_draws_uplace (j_X3_draws_uplace (upd (upd uplace x0.toNatClampNeg (4 + ((if j_X3_takes utr x0 uled = 0 then 1 - uturn else uturn) : Int32))) uled.toNatClampNeg (4 + ((if j_X3_takes utr x0 uled = 0 then 1 - uturn else uturn) : Int32))) urow udrawn udealt ((if j_X3_takes utr x0 uled = 0 then 1 - uturn else uturn) : Int32)) urow (j_X3_draws_udrawn udrawn udealt) udealt (1 - ((if j_X3_takes utr x0 uled = 0 then 1 - uturn else uturn) : Int32))) udealt 0) + (j_X3_howMany (j_X3_draws_uplace (j_X3_draws_uplace (upd (upd uplace x0.toNatClampNeg (4 + ((if j_X3_takes utr x0 uled = 0 then 1 - uturn else uturn) : Int32))) uled.toNatClampNeg (4 + ((if j_X3_takes utr x0 uled = 0 then 1 - uturn else uturn) : Int32))) urow udrawn udealt ((if j_X3_takes utr x0 uled = 0 then 1 - uturn else uturn) : Int32)) urow (j_X3_draws_udrawn udrawn udealt) udealt (1 - ((if j_X3_takes utr x0 uled = 0 then 1 - uturn else uturn) : Int32))) udealt 1) = 0 then 0 else uon)
def j_X3_ends_uturn (uturn : Int32) (uled : Int32) (utr : Int32) (x0 : Int32) : Int32 := ((if j_X3_takes utr x0 uled = 0 then 1 - uturn else uturn) : Int32)
def j_X3_ends_uled  : Int32 := (-1)
def j_X3_play (uplace : Nat → Int32) (udrawn : Int32) (udealt : Int32) (uon : Int32) (uturn : Int32) (uled : Int32) (utr : Int32) (x0 : Int32) : Int32 := (if j_X3_isCard x0 = 0 then 0 else (if j_X3_why uplace udrawn udealt uon uturn uled utr x0 = 0 then (if uled < 0 then (-1) else j_X3_ends uturn uled utr x0) else 0))
def j_X3_play_uplace (uplace : Nat → Int32) (urow : Nat → Int32) (udrawn : Int32) (udealt : Int32) (uon : Int32) (uturn : Int32) (uled : Int32) (utr : Int32) (x0 : Int32) : Nat → Int32 := (if j_X3_isCard x0 = 0 then uplace else (if j_X3_why uplace udrawn udealt uon uturn uled utr x0 = 0 then (if uled < 0 then upd uplace x0.toNatClampNeg (3 : Int32) else j_X3_ends_uplace uplace urow udrawn udealt uturn uled utr x0) else uplace))
def j_X3_play_upts (uplace : Nat → Int32) (upts : Nat → Int32) (uglv : Nat → Int32) (udrawn : Int32) (udealt : Int32) (uon : Int32) (uturn : Int32) (uled : Int32) (utr : Int32) (x0 : Int32) : Nat → Int32 := (if j_X3_isCard x0 = 0 then upts else (if j_X3_why uplace udrawn udealt uon uturn uled utr x0 = 0 then (if uled < 0 then upts else j_X3_ends_upts upts uglv uturn uled utr x0) else upts))
def j_X3_play_utks (uplace : Nat → Int32) (utks : Nat → Int32) (udrawn : Int32) (udealt : Int32) (uon : Int32) (uturn : Int32) (uled : Int32) (utr : Int32) (x0 : Int32) : Nat → Int32 := (if j_X3_isCard x0 = 0 then utks else (if j_X3_why uplace udrawn udealt uon uturn uled utr x0 = 0 then (if uled < 0 then utks else j_X3_ends_utks utks uturn uled utr x0) else utks))
def j_X3_play_uglv (uplace : Nat → Int32) (uglv : Nat → Int32) (udrawn : Int32) (udealt : Int32) (uon : Int32) (uturn : Int32) (uled : Int32) (utr : Int32) (x0 : Int32) : Nat → Int32 := (if j_X3_isCard x0 = 0 then uglv else (if j_X3_why uplace udrawn udealt uon uturn uled utr x0 = 0 then (if uled < 0 then uglv else j_X3_ends_uglv uglv) else uglv))
def j_X3_play_uwin (uplace : Nat → Int32) (urow : Nat → Int32) (upts : Nat → Int32) (uglv : Nat → Int32) (uwin : Nat → Int32) (udrawn : Int32) (udealt : Int32) (uon : Int32) (uturn : Int32) (uled : Int32) (utr : Int32) (x0 : Int32) : Nat → Int32 := (if j_X3_isCard x0 = 0 then uwin else (if j_X3_why uplace udrawn udealt uon uturn uled utr x0 = 0 then (if uled < 0 then uwin else j_X3_ends_uwin uplace urow upts uglv uwin udrawn udealt uturn uled utr x0) else uwin))
def j_X3_play_udrawn (uplace : Nat → Int32) (udrawn : Int32) (udealt : Int32) (uon : Int32) (uturn : Int32) (uled : Int32) (utr : Int32) (x0 : Int32) : Int32 := (if j_X3_isCard x0 = 0 then udrawn else (if j_X3_why uplace udrawn udealt uon uturn uled utr x0 = 0 then (if uled < 0 then udrawn else j_X3_ends_udrawn udrawn udealt) else udrawn))
def j_X3_play_uon (uplace : Nat → Int32) (urow : Nat → Int32) (udrawn : Int32) (udealt : Int32) (uon : Int32) (uturn : Int32) (uled : Int32) (utr : Int32) (x0 : Int32) : Int32 := (if j_X3_isCard x0 = 0 then uon else (if j_X3_why uplace udrawn udealt uon uturn uled utr x0 = 0 then (if uled < 0 then uon else j_X3_ends_uon uplace urow udrawn udealt uon uturn uled utr x0) else uon))
def j_X3_play_uturn (uplace : Nat → Int32) (udrawn : Int32) (udealt : Int32) (uon : Int32) (uturn : Int32) (uled : Int32) (utr : Int32) (x0 : Int32) : Int32 := (if j_X3_isCard x0 = 0 then uturn else (if j_X3_why uplace udrawn udealt uon uturn uled utr x0 = 0 then (if uled < 0 then 1 - uturn else j_X3_ends_uturn uturn uled utr x0) else uturn))
def j_X3_play_uled (uplace : Nat → Int32) (udrawn : Int32) (udealt : Int32) (uon : Int32) (uturn : Int32) (uled : Int32) (utr : Int32) (x0 : Int32) : Int32 := (if j_X3_isCard x0 = 0 then uled else (if j_X3_why uplace udrawn udealt uon uturn uled utr x0 = 0 then (if uled < 0 then x0 else j_X3_ends_uled) else uled))
def j_X3_play_uthr (uplace : Nat → Int32) (udrawn : Int32) (udealt : Int32) (uon : Int32) (uturn : Int32) (uled : Int32) (utr : Int32) (x0 : Int32) : Int32 := (if j_X3_isCard x0 = 0 then 1 else (if j_X3_why uplace udrawn udealt uon uturn uled utr x0 = 0 then 0 else 2))
def j_X3_putOnGloves (uglv : Nat → Int32) (uon : Int32) (uturn : Int32) : Int32 := (if uon = 0 then 0 else (if uglv (uturn).toNatClampNeg = 0 then uturn else 0))
def j_X3_putOnGloves_uglv (uglv : Nat → Int32) (uon : Int32) (uturn : Int32) : Nat → Int32 := (if uon = 0 then uglv else (if uglv (uturn).toNatClampNeg = 0 then upd uglv uturn.toNatClampNeg (1 : Int32) else uglv))
def j_X3_putOnGloves_uthr (uglv : Nat → Int32) (uon : Int32) (uturn : Int32) : Int32 := (if uon = 0 then 1 else (if uglv (uturn).toNatClampNeg = 0 then 0 else 1))
def j_X3_whyNot (uplace : Nat → Int32) (udrawn : Int32) (udealt : Int32) (uon : Int32) (uturn : Int32) (uled : Int32) (utr : Int32) (x0 : Int32) : Int32 := (if j_X3_isCard x0 = 0 then 0 else j_X3_why uplace udrawn udealt uon uturn uled utr x0)
def j_X3_isPlaying (uon : Int32) : Int32 := uon
def j_X3_turn (uon : Int32) (uturn : Int32) : Int32 := (if uon = 0 then (-1) else uturn)
def j_X3_led (uled : Int32) : Int32 := uled
def j_X3_trumps (utr : Int32) : Int32 := utr
def j_X3_pile (udrawn : Int32) (udealt : Int32) : Int32 := j_X3_inPile udrawn udealt
def j_X3_cards (uplace : Nat → Int32) (udealt : Int32) (x0 : Int32) : Int32 := (if j_X3_isArchivist x0 = 0 then 0 else j_X3_howMany uplace udealt x0)
def j_X3_cardAt_10 (uplace : Nat → Int32) (udealt : Int32) (x0 : Int32) (x1 : Int32) : Nat → Nat → Int32 → Int32
  | 0, i, y3 => 0
  | n + 1, i, y3 => (if udealt = 0 then 0 else (if j_X3_isArchivist x0 = 0 then 0 else (if x1 < 0 then 0 else (if uplace (nI i).toNatClampNeg = x0 then (if y3 = 0 then nI i else j_X3_cardAt_10 uplace udealt x0 x1 n (i + 1) (y3 + (-1))) else j_X3_cardAt_10 uplace udealt x0 x1 n (i + 1) y3))))
def j_X3_cardAt (uplace : Nat → Int32) (udealt : Int32) (x0 : Int32) (x1 : Int32) : Int32 := j_X3_cardAt_10 uplace udealt x0 x1 42 0 x1
def j_X3_cardAt_uthr_10 (uplace : Nat → Int32) (udealt : Int32) (x0 : Int32) (x1 : Int32) : Nat → Nat → Int32 → Int32
  | 0, i, y3 => 1
  | n + 1, i, y3 => (if udealt = 0 then 1 else (if j_X3_isArchivist x0 = 0 then 1 else (if x1 < 0 then 1 else (if uplace (nI i).toNatClampNeg = x0 then (if y3 = 0 then 0 else j_X3_cardAt_uthr_10 uplace udealt x0 x1 n (i + 1) (y3 + (-1))) else j_X3_cardAt_uthr_10 uplace udealt x0 x1 n (i + 1) y3))))
def j_X3_cardAt_uthr (uplace : Nat → Int32) (udealt : Int32) (x0 : Int32) (x1 : Int32) : Int32 := j_X3_cardAt_uthr_10 uplace udealt x0 x1 42 0 x1
def j_X3_placeOf (uplace : Nat → Int32) (udealt : Int32) (x0 : Int32) : Int32 := (if j_X3_isCard x0 = 0 then 0 else (if udealt = 0 then (-1) else uplace (x0).toNatClampNeg))
def j_X3_choices_9 (uplace : Nat → Int32) (udrawn : Int32) (udealt : Int32) (uon : Int32) (uturn : Int32) (uled : Int32) (utr : Int32) : Nat → Nat → Int32 → Int32
  | 0, i, y1 => y1
  | n + 1, i, y1 => (if j_X3_why uplace udrawn udealt uon uturn uled utr (nI i) = 0 then j_X3_choices_9 uplace udrawn udealt uon uturn uled utr n (i + 1) (y1 + 1) else j_X3_choices_9 uplace udrawn udealt uon uturn uled utr n (i + 1) (y1 + 0))
def j_X3_choices (uplace : Nat → Int32) (udrawn : Int32) (udealt : Int32) (uon : Int32) (uturn : Int32) (uled : Int32) (utr : Int32) : Int32 := j_X3_choices_9 uplace udrawn udealt uon uturn uled utr 42 0 0
def j_X3_wouldTake (uturn : Int32) (uled : Int32) (utr : Int32) (x0 : Int32) : Int32 := (if j_X3_isCard x0 = 0 then 0 else (if uled < 0 then 0 else (if uled = x0 then 0 else (if j_X3_takes utr x0 uled = 0 then 1 - uturn else uturn))))
def j_X3_wouldTake_uthr (uled : Int32) (x0 : Int32) : Int32 := (if j_X3_isCard x0 = 0 then 1 else (if uled < 0 then 2 else (if uled = x0 then 2 else 0)))
def j_X3_wonByFirst (uwin : Nat → Int32) : Int32 := uwin (0 : Int32).toNatClampNeg
def j_X3_wonBySecond (uwin : Nat → Int32) : Int32 := uwin (1 : Int32).toNatClampNeg
def j_X3_deal_102_uplace  (zrow : Nat → Int32) : Nat → Nat → (Nat → Int32) → (Nat → Int32)
  | 0, i, zuplace => zuplace
  | n + 1, i, zuplace => j_X3_deal_102_uplace  zrow n (i + 1) (upd zuplace (zrow (nI i).toNatClampNeg).toNatClampNeg ((if 6 ≤ nI i then ((if 12 ≤ nI i then 2 else 1) : Int32) else 0) : Int32))
def j_X3_deal_32_urow  : Nat → Int64 → (Nat → Int32) → (Nat → Int32)
  | 0, y3, zurow => zurow
  | i + 1, y3, zurow => j_X3_deal_32_urow  i ((y3 * 6364136223846793005) + 1442695040888963407) (upd (upd zurow (nI (i + 1)).toNatClampNeg (zurow ((((((y3 * 6364136223846793005) + 1442695040888963407).toUInt64 >>> ((33 : Int32).toInt64.toUInt64 &&& Int64.toUInt64 63)).toInt64) - ((((y3 * 6364136223846793005) + 1442695040888963407).toUInt64 >>> ((33 : Int32).toInt64.toUInt64 &&& Int64.toUInt64 63)).toInt64) / (((nI (i + 1)).toInt64) + 1) * (((nI (i + 1)).toInt64) + 1)).toInt32).toNatClampNeg)) ((((((y3 * 6364136223846793005) + 1442695040888963407).toUInt64 >>> ((33 : Int32).toInt64.toUInt64 &&& Int64.toUInt64 63)).toInt64) - ((((y3 * 6364136223846793005) + 1442695040888963407).toUInt64 >>> ((33 : Int32).toInt64.toUInt64 &&& Int64.toUInt64 63)).toInt64) / (((nI (i + 1)).toInt64) + 1) * (((nI (i + 1)).toInt64) + 1)).toInt32).toNatClampNeg (zurow (nI (i + 1)).toNatClampNeg))
def j_X3_deal_7_urow  : Nat → Nat → (Nat → Int32) → (Nat → Int32)
  | 0, i, zurow => zurow
  | n + 1, i, zurow => j_X3_deal_7_urow  n (i + 1) (upd zurow (nI i).toNatClampNeg (nI i))
def j_X3_deal (urow : Nat → Int32) (x0 : Int64) : Int32 := ((if j_X3_isMildew ((j_X3_deal_32_urow  41 x0 (j_X3_deal_7_urow  (42) 0 urow)) (12 : Int32).toNatClampNeg) = 0 then j_X3_provenance ((j_X3_deal_32_urow  41 x0 (j_X3_deal_7_urow  (42) 0 urow)) (12 : Int32).toNatClampNeg) else 0) : Int32)
def j_X3_deal_uplace (uplace : Nat → Int32) (urow : Nat → Int32) (x0 : Int64) : Nat → Int32 := j_X3_deal_102_uplace  (j_X3_deal_32_urow  41 x0 (j_X3_deal_7_urow  (42) 0 urow)) (42) 0 uplace
def j_X3_deal_urow (urow : Nat → Int32) (x0 : Int64) : Nat → Int32 := j_X3_deal_32_urow  41 x0 (j_X3_deal_7_urow  (42) 0 urow)
def j_X3_deal_upts (upts : Nat → Int32) : Nat → Int32 := upd (upd upts (0 : Int32).toNatClampNeg (0 : Int32)) (1 : Int32).toNatClampNeg (0 : Int32)
def j_X3_deal_utks (utks : Nat → Int32) : Nat → Int32 := upd (upd utks (0 : Int32).toNatClampNeg (0 : Int32)) (1 : Int32).toNatClampNeg (0 : Int32)
def j_X3_deal_uglv (uglv : Nat → Int32) : Nat → Int32 := upd (upd uglv (0 : Int32).toNatClampNeg (0 : Int32)) (1 : Int32).toNatClampNeg (0 : Int32)
def j_X3_deal_udrawn  : Int32 := 0
def j_X3_deal_udealt  : Int32 := 1
def j_X3_deal_uon  : Int32 := 1
def j_X3_deal_uturn  : Int32 := 0
def j_X3_deal_uled  : Int32 := (-1)
def j_X3_deal_utr (urow : Nat → Int32) (x0 : Int64) : Int32 := ((if j_X3_isMildew ((j_X3_deal_32_urow  41 x0 (j_X3_deal_7_urow  (42) 0 urow)) (12 : Int32).toNatClampNeg) = 0 then j_X3_provenance ((j_X3_deal_32_urow  41 x0 (j_X3_deal_7_urow  (42) 0 urow)) (12 : Int32).toNatClampNeg) else 0) : Int32)
def fb_ct (p : Nat → Bool) : Nat → Nat
  | 0 => 0
  | n + 1 => fb_ct p n + (if p n then 1 else 0)
theorem fb_ct_succ (p : Nat → Bool) (n : Nat) : fb_ct p (n + 1) = fb_ct p n + (if p n then 1 else 0) := rfl
theorem fb_ct_le (p : Nat → Bool) : ∀ n, fb_ct p n ≤ n
  | 0 => Nat.le_refl _
  | n + 1 => by
    have h := fb_ct_le p n
    rw [fb_ct_succ]
    split <;> omega
theorem fb_ct_cong {p q : Nat → Bool} : ∀ {n : Nat}, (∀ k, k < n → p k = q k) → fb_ct p n = fb_ct q n
  | 0, _ => rfl
  | n + 1, h => by
    rw [fb_ct_succ, fb_ct_succ, fb_ct_cong (fun k hk => h k (by omega)), h n (by omega)]
/-- one place changed -/
theorem fb_ct_out (p : Nat → Bool) (b : Bool) {i n : Nat} (h : n ≤ i) : fb_ct (fun k => if k = i then b else p k) n = fb_ct p n :=
  fb_ct_cong fun k hk => if_neg (by omega)
theorem fb_ct_upd (p : Nat → Bool) (b : Bool) {i : Nat} : ∀ {n : Nat}, i < n → fb_ct (fun k => if k = i then b else p k) n + (if p i then 1 else 0) = fb_ct p n + (if b then 1 else 0)
  | 0, h => absurd h (Nat.not_lt_zero i)
  | n + 1, h => by
    rw [fb_ct_succ, fb_ct_succ]
    rcases Nat.lt_or_ge i n with q | q
    · have := fb_ct_upd p b q
      have e : (if n = i then b else p n) = p n := if_neg (by omega)
      rw [e]
      omega
    · have e : i = n := by omega
      subst e
      rw [fb_ct_out p b (Nat.le_refl _)]
      simp only [if_true]
      omega
theorem fb_ct_sub {p q : Nat → Bool} : ∀ {n : Nat}, (∀ k, k < n → p k = true → q k = true) → fb_ct p n ≤ fb_ct q n
  | 0, _ => Nat.le_refl _
  | n + 1, h => by
    have h1 := fb_ct_sub (n := n) (p := p) (q := q) (fun k hk => h k (by omega))
    have h2 := h n (by omega)
    rw [fb_ct_succ, fb_ct_succ]
    cases hp : p n <;> cases hq : q n <;> simp_all <;> omega
theorem fb_ct_or {p q : Nat → Bool} : ∀ {n : Nat}, (∀ k, k < n → ¬ (p k = true ∧ q k = true)) → fb_ct (fun k => p k || q k) n = fb_ct p n + fb_ct q n
  | 0, _ => rfl
  | n + 1, h => by
    have h1 := fb_ct_or (n := n) (p := p) (q := q) (fun k hk => h k (by omega))
    have h2 := h n (by omega)
    rw [fb_ct_succ, fb_ct_succ, fb_ct_succ, h1]
    cases hp : p n <;> cases hq : q n <;> simp_all <;> omega
theorem fb_ct_split (p : Nat → Bool) (m : Nat) : ∀ n, fb_ct p (m + n) = fb_ct p m + fb_ct (fun k => p (m + k)) n
  | 0 => rfl
  | n + 1 => by
    have h := fb_ct_split p m n
    show fb_ct p (m + n + 1) = _
    rw [fb_ct_succ, fb_ct_succ, h, Nat.add_assoc]
theorem fb_ct_zero {p : Nat → Bool} : ∀ {n : Nat}, fb_ct p n = 0 ↔ ∀ k, k < n → p k = false
  | 0 => ⟨fun _ k hk => absurd hk (Nat.not_lt_zero k), fun _ => rfl⟩
  | n + 1 => by
    have h := fb_ct_zero (p := p) (n := n)
    rw [fb_ct_succ]
    constructor
    · intro e k hk
      have e1 : fb_ct p n = 0 := by omega
      rcases Nat.lt_or_ge k n with q | q
      · exact h.mp e1 k q
      · have ek : k = n := by omega
        subst ek
        cases hp : p k
        · rfl
        · simp [hp] at e
    · intro a
      rw [h.mpr (fun k hk => a k (by omega)), a n (by omega)]
      rfl
theorem fb_ct_pos {p : Nat → Bool} {n : Nat} : 0 < fb_ct p n ↔ ∃ k, k < n ∧ p k = true := by
  constructor
  · intro h
    refine Classical.byContradiction fun hx => ?_
    have := fb_ct_zero.mpr (fun k hk => by
      cases hp : p k
      · rfl
      · exact absurd ⟨k, hk, hp⟩ hx : ∀ k, k < n → p k = false)
    omega
  · rintro ⟨k, hk, hp⟩
    rcases Nat.eq_zero_or_pos (fb_ct p n) with e | e
    · have := fb_ct_zero.mp e k hk
      rw [this] at hp
      cases hp
    · exact e
/-- the k-th place with the property -/
theorem fb_ct_kth {p : Nat → Bool} {k : Nat} : ∀ {n : Nat}, k < fb_ct p n → ∃ i, i < n ∧ p i = true ∧ fb_ct p i = k
  | 0, h => absurd h (Nat.not_lt_zero k)
  | n + 1, h => by
    rcases Nat.lt_or_ge k (fb_ct p n) with q | q
    · obtain ⟨i, h1, h2⟩ := fb_ct_kth q
      exact ⟨i, by omega, h2⟩
    · rw [fb_ct_succ] at h
      cases hp : p n
      · simp [hp] at h; omega
      · simp [hp] at h
        exact ⟨n, by omega, hp, by omega⟩
def zs_in (h : Int64) (c : Nat) : Bool := h.toBitVec.getLsbD c
theorem zs_ext {a b : Int64} (h : ∀ c, c < 64 → zs_in a c = zs_in b c) : a = b :=
  Int64.toBitVec_inj.mp (BitVec.eq_of_getLsbD_eq (fun c hc => h c hc))
theorem zs_big (h : Int64) {c : Nat} (hc : 64 ≤ c) : zs_in h c = false := BitVec.getLsbD_of_ge _ _ hc
theorem zs_and (a b : Int64) (c : Nat) : zs_in (a &&& b) c = (zs_in a c && zs_in b c) := by
  unfold zs_in; rw [Int64.toBitVec_and, BitVec.getLsbD_and]
theorem zs_or (a b : Int64) (c : Nat) : zs_in (a ||| b) c = (zs_in a c || zs_in b c) := by
  unfold zs_in; rw [Int64.toBitVec_or, BitVec.getLsbD_or]
theorem zs_xor (a b : Int64) (c : Nat) : zs_in (a ^^^ b) c = (zs_in a c ^^ zs_in b c) := by
  unfold zs_in; rw [Int64.toBitVec_xor, BitVec.getLsbD_xor]
theorem zs_m1 {c : Nat} (hc : c < 64) : zs_in (-1) c = true := by
  have h : (-1 : Int64).toBitVec = BitVec.allOnes 64 := by decide
  unfold zs_in; rw [h, BitVec.getLsbD_allOnes]; simpa using hc
theorem zs_0 (c : Nat) : zs_in 0 c = false := by
  have h : (0 : Int64).toBitVec = 0#64 := by decide
  unfold zs_in; rw [h]; simp
theorem zs_bitv : ∀ c, c < 64 → (j_X2_bit (nI c)).toBitVec = BitVec.twoPow 64 c := by decide +kernel
theorem zs_bit {c : Nat} (hc : c < 64) (d : Nat) : zs_in (j_X2_bit (nI c)) d = decide (d = c) := by
  unfold zs_in; rw [zs_bitv c hc, BitVec.getLsbD_twoPow]
  by_cases h : d = c
  · subst h; simp [hc]
  · have h' : ¬ c = d := fun e => h e.symm
    simp [h, h']
theorem zs_drop {c : Nat} (hc : c < 64) (h : Int64) (d : Nat) : zs_in (h &&& ((j_X2_bit (nI c)) ^^^ (-1))) d = (zs_in h d && !decide (d = c)) := by
  rw [zs_and, zs_xor, zs_bit hc]
  by_cases hd : d < 64
  · rw [zs_m1 hd]; simp
  · rw [zs_big h (by omega)]; simp
theorem zs_add {c : Nat} (hc : c < 64) (h : Int64) (d : Nat) : zs_in (h ||| (j_X2_bit (nI c))) d = (zs_in h d || decide (d = c)) := by
  rw [zs_or, zs_bit hc]
theorem zs_nil {h : Int64} : h = 0 ↔ ∀ c, c < 64 → zs_in h c = false :=
  ⟨fun e c _ => by rw [e]; exact zs_0 c, fun k => zs_ext fun c hc => by rw [k c hc, zs_0]⟩
theorem zs_cmp {h : Int64} : lg_cmp h 0 = 0 ↔ ∀ c, c < 64 → zs_in h c = false := (lg_cmp_eq h 0).trans zs_nil
theorem zs_ifc {p q : Prop} [Decidable p] {a : Int32} (e : p ↔ q) (ha : ¬ a = 0) : (if p then 0 else a) = 0 ↔ q := by
  by_cases h : p
  · rw [if_pos h]; exact ⟨fun _ => e.mp h, fun _ => rfl⟩
  · rw [if_neg h]; exact ⟨fun k => absurd k ha, fun k => absurd (e.mpr k) h⟩
theorem zs_shv : ∀ c, c < 64 → ((((nI c : Int32)).toInt64.toUInt64 &&& Int64.toUInt64 63).toBitVec % 64).toNat = c := by decide +kernel
theorem zs_sh {c : Nat} (hc : c < 64) (h : Int64) (d : Nat) : zs_in ((h.toUInt64 >>> ((nI c : Int32).toInt64.toUInt64 &&& Int64.toUInt64 63)).toInt64) d = zs_in h (c + d) := by
  show ((h.toUInt64 >>> ((nI c : Int32).toInt64.toUInt64 &&& Int64.toUInt64 63)).toBitVec).getLsbD d = h.toBitVec.getLsbD (c + d)
  rw [UInt64.toBitVec_shiftRight, BitVec.ushiftRight_eq', zs_shv c hc, BitVec.getLsbD_ushiftRight]
  rfl
theorem zs_one (d : Nat) : zs_in 1 d = decide (d = 0) := by
  have e : (1 : Int64) = j_X2_bit (nI 0) := by decide +kernel
  rw [e]; exact zs_bit (by decide) d
theorem zs_has {c : Nat} (hc : c < 64) (h : Int64) : j_X2_has h (nI c) = 0 ↔ zs_in h c = false := by
  have e : (lg_cmp (((h.toUInt64 >>> ((nI c : Int32).toInt64.toUInt64 &&& Int64.toUInt64 63)).toInt64) &&& 1) 0 = 0) ↔ zs_in h c = false := by
    rw [zs_cmp]
    constructor
    · intro k
      have := k 0 (by decide)
      rw [zs_and, zs_sh hc, zs_one] at this
      simpa using this
    · intro k d _
      rw [zs_and, zs_sh hc, zs_one]
      by_cases q : d = 0
      · subst q; simp [k]
      · simp [q]
  exact zs_ifc e (by decide)
theorem zs_datedv : ∀ c, c < 64 → zs_in 1099511627775 c = decide (c < 40) := by decide +kernel
theorem zs_allv : ∀ p, p < 4 → ∀ c, c < 64 → zs_in (j_X2_allOf (nI p)) c = decide (c / 10 = p) := by decide +kernel
theorem zs_dated (h : Int64) : lg_cmp (h &&& 1099511627775) 0 = 0 ↔ ∀ c, c < 40 → zs_in h c = false := by
  rw [zs_cmp]
  constructor
  · intro k c hc
    have := k c (by omega)
    rw [zs_and, zs_datedv c (by omega)] at this
    simpa [hc] using this
  · intro k c hc
    rw [zs_and, zs_datedv c hc]
    by_cases q : c < 40
    · simp [k c q]
    · simp [q]
theorem zs_suit {p : Nat} (hp : p < 4) (h : Int64) : lg_cmp (h &&& (j_X2_allOf (nI p))) 0 = 0 ↔ ∀ c, c < 40 → c / 10 = p → zs_in h c = false := by
  rw [zs_cmp]
  constructor
  · intro k c hc hq
    have := k c (by omega)
    rw [zs_and, zs_allv p hp c (by omega)] at this
    simpa [hq] using this
  · intro k c hc
    rw [zs_and, zs_allv p hp c hc]
    by_cases q : c / 10 = p
    · simp [k c (by omega) q]
    · simp [q]
/-- how many of the 42 -/
def zs_ct (h : Int64) : Nat := fb_ct (zs_in h) 42
def zs_w (h : Int64) : Prop := ∀ c, 42 ≤ c → zs_in h c = false
theorem zs_ct_add {c : Nat} (hc : c < 42) {h : Int64} (hi : zs_in h c = false) : zs_ct (h ||| (j_X2_bit (nI c))) = zs_ct h + 1 := by
  unfold zs_ct
  have k := fb_ct_upd (zs_in h) true hc
  rw [hi] at k
  have e : fb_ct (zs_in (h ||| (j_X2_bit (nI c)))) 42 = fb_ct (fun k => if k = c then true else zs_in h k) 42 :=
    fb_ct_cong (fun d _ => by
      rw [zs_add (by omega)]
      by_cases q : d = c
      · simp [q]
      · simp [q])
  rw [e]
  simpa using k
theorem zs_ct_nil {h : Int64} (hw : zs_w h) : zs_ct h = 0 ↔ h = 0 := by
  unfold zs_ct
  rw [fb_ct_zero, zs_nil]
  constructor
  · intro k c _
    rcases Nat.lt_or_ge c 42 with q | q
    · exact k c q
    · exact hw c q
  · intro k c hc
    exact k c (by omega)
theorem zs_some {h : Int64} (hw : zs_w h) (h0 : ¬ h = 0) : ∃ c, c < 42 ∧ zs_in h c = true := by
  have k : 0 < zs_ct h := Nat.pos_of_ne_zero (fun e => h0 ((zs_ct_nil hw).mp e))
  exact fb_ct_pos.mp k
/-- what may be led, what may be answered -/
def zs_sE (h : Int64) (p : Nat) : Prop := ∃ d, d < 40 ∧ d / 10 = p ∧ zs_in h d = true
def zs_lead (h : Int64) (c : Nat) : Prop := c < 40 ∨ ∀ d, d < 40 → zs_in h d = false
def zs_fol (h : Int64) (t l c : Nat) : Prop := 40 ≤ l ∨ (zs_sE h (l / 10) ∧ c < 40 ∧ c / 10 = l / 10) ∨ (¬ zs_sE h (l / 10) ∧ zs_sE h t ∧ c < 40 ∧ c / 10 = t) ∨ (¬ zs_sE h (l / 10) ∧ ¬ zs_sE h t)
theorem zs_suitE {p : Nat} (hp : p < 4) (h : Int64) : lg_cmp (h &&& (j_X2_allOf (nI p))) 0 = 0 ↔ ¬ zs_sE h p := by
  rw [zs_suit hp]
  constructor
  · intro k ⟨d, h1, h2, h3⟩
    rw [k d h1 h2] at h3
    exact absurd h3 (by decide)
  · intro k c hc hq
    cases e : zs_in h c with
    | false => rfl
    | true => exact absurd ⟨c, hc, hq, e⟩ k
theorem zs_mil : ∀ c, c < 42 → (j_X2_isMildew (nI c) = 0 ↔ c < 40) := by decide +kernel
theorem zs_div : ∀ c, c < 42 → nI c / 10 = nI (c / 10) := by decide +kernel
theorem zs_rl {h : Int64} {c : Nat} (hc : c < 42) : j_X2_reasonAgainstLeading h (nI c) = 0 ↔ zs_lead h c := by
  unfold j_X2_reasonAgainstLeading zs_lead
  by_cases q : c < 40
  · rw [if_pos ((zs_mil c hc).mpr q)]
    exact ⟨fun _ => Or.inl q, fun _ => rfl⟩
  · rw [if_neg (fun e => q ((zs_mil c hc).mp e))]
    refine (zs_ifc (zs_dated h) (by decide)).trans ⟨Or.inr, fun k => ?_⟩
    rcases k with k | k
    · exact absurd k q
    · exact k
theorem zs_hasA {p c : Nat} (hp : p < 4) (hc : c < 42) {h : Int64} (hi : zs_in h c = true) : j_X2_has (h &&& (j_X2_allOf (nI p))) (nI c) = 0 ↔ ¬ (c < 40 ∧ c / 10 = p) := by
  rw [zs_has (by omega), zs_and, zs_allv p hp c (by omega), hi]
  constructor
  · intro k ⟨_, e⟩
    simp [e] at k
  · intro k
    have : ¬ c / 10 = p := fun e => k ⟨by omega, e⟩
    simp [this]
theorem zs_rf {h : Int64} {c l t : Nat} (hc : c < 42) (hl : l < 42) (ht : t < 4) (hi : zs_in h c = true) : j_X2_reasonAgainstReplying h (nI c) (nI l) (nI t) = 0 ↔ zs_fol h t l c := by
  unfold j_X2_reasonAgainstReplying zs_fol
  by_cases q : l < 40
  · rw [if_pos ((zs_mil l hl).mpr q), zs_div l hl]
    have hp : l / 10 < 4 := by omega
    by_cases s : zs_sE h (l / 10)
    · rw [if_neg (fun e => (zs_suitE hp h).mp e s)]
      by_cases u : c < 40 ∧ c / 10 = l / 10
      · rw [if_neg (fun e => (zs_hasA hp hc hi).mp e u)]
        exact ⟨fun _ => Or.inr (Or.inl ⟨s, u⟩), fun _ => rfl⟩
      · rw [if_pos ((zs_hasA hp hc hi).mpr u)]
        refine ⟨fun e => absurd e (by decide), fun e => ?_⟩
        rcases e with e | e | e | e
        · omega
        · exact absurd e.2 u
        · exact absurd s e.1
        · exact absurd s e.1
    · rw [if_pos ((zs_suitE hp h).mpr s)]
      by_cases v : zs_sE h t
      · rw [if_neg (fun e => (zs_suitE ht h).mp e v)]
        by_cases u : c < 40 ∧ c / 10 = t
        · rw [if_neg (fun e => (zs_hasA ht hc hi).mp e u)]
          exact ⟨fun _ => Or.inr (Or.inr (Or.inl ⟨s, v, u⟩)), fun _ => rfl⟩
        · rw [if_pos ((zs_hasA ht hc hi).mpr u)]
          refine ⟨fun e => absurd e (by decide), fun e => ?_⟩
          rcases e with e | e | e | e
          · omega
          · exact absurd e.1 s
          · exact absurd e.2.2 u
          · exact absurd v e.2
      · rw [if_pos ((zs_suitE ht h).mpr v)]
        exact ⟨fun _ => Or.inr (Or.inr (Or.inr ⟨s, v⟩)), fun _ => rfl⟩
  · rw [if_neg (fun e => q ((zs_mil l hl).mp e))]
    exact ⟨fun _ => Or.inl (by omega), fun _ => rfl⟩
theorem zs_nm1 : ∀ l, l < 42 → ¬ nI l = (-1) := by decide +kernel
theorem zs_leadE {h : Int64} (hw : zs_w h) (h0 : ¬ h = 0) : ∃ c, c < 42 ∧ zs_in h c = true ∧ zs_lead h c := by
  by_cases q : ∃ d, d < 40 ∧ zs_in h d = true
  · obtain ⟨d, hd, hi⟩ := q
    exact ⟨d, by omega, hi, Or.inl hd⟩
  · obtain ⟨c, hc, hi⟩ := zs_some hw h0
    refine ⟨c, hc, hi, Or.inr (fun d hd => ?_)⟩
    cases e : zs_in h d with
    | false => rfl
    | true => exact absurd ⟨d, hd, e⟩ q
theorem zs_folE {h : Int64} (hw : zs_w h) (h0 : ¬ h = 0) (t l : Nat) : ∃ c, c < 42 ∧ zs_in h c = true ∧ zs_fol h t l c := by
  obtain ⟨c, hc, hi⟩ := zs_some hw h0
  by_cases q : 40 ≤ l
  · exact ⟨c, hc, hi, Or.inl q⟩
  · by_cases s : zs_sE h (l / 10)
    · obtain ⟨d, h1, h2, h3⟩ := s
      exact ⟨d, by omega, h3, Or.inr (Or.inl ⟨⟨d, h1, h2, h3⟩, h1, h2⟩)⟩
    · by_cases v : zs_sE h t
      · obtain ⟨d, h1, h2, h3⟩ := v
        exact ⟨d, by omega, h3, Or.inr (Or.inr (Or.inl ⟨s, ⟨d, h1, h2, h3⟩, h1, h2⟩))⟩
      · exact ⟨c, hc, hi, Or.inr (Or.inr (Or.inr ⟨s, v⟩))⟩
theorem zs_ct64 {a : Int64} (hw : zs_w a) : fb_ct (zs_in a) 64 = zs_ct a := by
  have e := fb_ct_split (zs_in a) 42 22
  have z : fb_ct (fun k => zs_in a (42 + k)) 22 = 0 := fb_ct_zero.mpr (fun k _ => hw _ (by omega))
  rw [z] at e
  exact e
theorem zm_fl {a b : Nat} (h : a + b = 1) : 1 - nI a = nI b := by
  have : (a = 0 ∧ b = 1) ∨ (a = 1 ∧ b = 0) := by omega
  rcases this with ⟨h1, h2⟩ | ⟨h1, h2⟩
  · subst h1; subst h2; decide
  · subst h1; subst h2; decide
section ZM
variable {held : Nat → Int32} {cd : Nat → Nat → Nat} {nn : Nat → Nat}
theorem zm_mil3 : ∀ c, c < 42 → (j_X3_isMildew (nI c) = 0 ↔ c < 40) := by decide +kernel
theorem zm_prov : ∀ c, c < 42 → j_X3_provenance (nI c) = nI (c / 10) := by decide +kernel
theorem zm_rem : ∀ c, c < 42 → nI c - nI c / 10 * 10 = nI (c % 10) := by decide +kernel
theorem zm_trump {t c : Nat} (ht : t < 4) (hc : c < 42) : j_X3_isTrump (nI t) (nI c) = 0 ↔ ¬ (c < 40 ∧ c / 10 = t) := by
  unfold j_X3_isTrump
  by_cases q : c < 40
  · rw [if_pos ((zm_mil3 c hc).mpr q), zm_prov c hc]
    by_cases r : c / 10 = t
    · rw [if_pos (by rw [r])]
      exact ⟨fun e => absurd e (by decide), fun e => absurd ⟨q, r⟩ e⟩
    · rw [if_neg (fun e => r ((nI_eq (by omega) (by omega)).mp e))]
      exact ⟨fun _ k => r k.2, fun _ => rfl⟩
  · rw [if_neg (fun e => q ((zm_mil3 c hc).mp e))]
    exact ⟨fun _ k => q k.1, fun _ => rfl⟩
end ZM
theorem zm_worth (x g : Int32) : j_X3_worthTo x g = j_X2_worth x g := by
  unfold j_X3_worthTo j_X3_worth j_X2_worth j_X3_isMildew j_X2_isMildew
  by_cases h : x < 40
  · simp [h]
  · by_cases k : g = 0
    · simp [h, k]
    · simp [h, k]
theorem zm_takes {t c l : Nat} (ht : t < 4) (hc : c < 42) (hl : l < 42) : j_X3_takes (nI t) (nI c) (nI l) = 0 ↔ j_X2_beats (nI c) (nI l) (nI t) = 0 := by
  unfold j_X3_takes j_X2_beats
  by_cases q : l < 40
  · rw [if_pos ((zm_mil3 l hl).mpr q), if_pos ((zs_mil l hl).mpr q)]
    by_cases u : c < 40
    · rw [if_pos ((zm_mil3 c hc).mpr u), if_pos ((zs_mil c hc).mpr u), zm_prov l hl, zm_prov c hc, zm_rem l hl, zm_rem c hc, zs_div c hc, zs_div l hl]
      by_cases v : c / 10 = l / 10
      · have v1 : nI (l / 10) = nI (c / 10) := by rw [v]
        have v2 : nI (c / 10) = nI (l / 10) := by rw [v]
        rw [if_pos v1, if_pos v2]
        by_cases w : l ≤ c
        · have w1 : nI (l % 10) ≤ nI (c % 10) := (nI_leI (by omega) (by omega)).mpr (by omega)
          have w2 : nI l ≤ nI c := (nI_leI (by omega) (by omega)).mpr w
          rw [if_pos w1, if_pos w2]
        · have w1 : ¬ nI (l % 10) ≤ nI (c % 10) := fun e => w (by have := (nI_leI (by omega) (by omega)).mp e; omega)
          have w2 : ¬ nI l ≤ nI c := fun e => w ((nI_leI (by omega) (by omega)).mp e)
          rw [if_neg w1, if_neg w2]
      · have v1 : ¬ nI (l / 10) = nI (c / 10) := fun e => v ((nI_eq (by omega) (by omega)).mp e).symm
        have v2 : ¬ nI (c / 10) = nI (l / 10) := fun e => v ((nI_eq (by omega) (by omega)).mp e)
        rw [if_neg v1, if_neg v2]
        by_cases w : c / 10 = t
        · have w1 : nI (c / 10) = nI t := by rw [w]
          rw [if_neg (fun e => (zm_trump ht hc).mp e ⟨u, w⟩), if_pos ((zm_trump ht hl).mpr (fun k => v (w.trans k.2.symm))), if_pos w1]
        · have w1 : ¬ nI (c / 10) = nI t := fun e => w ((nI_eq (by omega) (by omega)).mp e)
          rw [if_pos ((zm_trump ht hc).mpr (fun k => w k.2)), if_neg w1]
    · rw [if_neg (fun e => u ((zm_mil3 c hc).mp e)), if_neg (fun e => u ((zs_mil c hc).mp e))]
  · rw [if_neg (fun e => q ((zm_mil3 l hl).mp e))]
    by_cases u : c < 40
    · rw [if_pos ((zm_mil3 c hc).mpr u), if_pos ((zs_mil c hc).mpr u), if_neg (fun e => q ((zs_mil l hl).mp e))]
    · rw [if_neg (fun e => u ((zm_mil3 c hc).mp e)), if_neg (fun e => u ((zs_mil c hc).mp e))]
abbrev zl_p (up : Nat → Int32) (a : Nat) : Nat → Bool := fun c => decide (up c = nI a)
abbrev zl_nn (up : Nat → Int32) (a : Nat) : Nat := fb_ct (zl_p up a) 42
theorem zl_hm4 (up : Nat → Int32) (a : Nat) {ud : Int32} (hu : ¬ ud = 0) : ∀ (n i y : Nat), i + n ≤ 42 → y = fb_ct (zl_p up a) i → j_X3_howMany_4 up ud (nI a) n i (nI y) = nI (fb_ct (zl_p up a) (i + n))
  | 0, i, y, _, e => by
    show nI y = _
    rw [e]; rfl
  | n + 1, i, y, h, e => by
    rw [j_X3_howMany_4, if_neg hu, nI_clamp (by omega), show i + (n + 1) = i + 1 + n by omega]
    have e2 : y ≤ 42 := by rw [e]; exact Nat.le_trans (fb_ct_le _ i) (by omega)
    by_cases c : up i = nI a
    · have k : zl_p up a i = true := by simp [zl_p, c]
      rw [if_pos c, nI_1]
      exact zl_hm4 up a hu n (i + 1) (y + 1) (by omega) (by rw [fb_ct_succ, if_pos k, e])
    · have k : ¬ zl_p up a i = true := by simp [zl_p, c]
      rw [if_neg c, show nI y + 0 = nI y from Int32.add_zero _]
      exact zl_hm4 up a hu n (i + 1) y (by omega) (by rw [fb_ct_succ, if_neg k, e]; rfl)
theorem zl_hm (up : Nat → Int32) (a : Nat) {ud : Int32} (hu : ¬ ud = 0) : j_X3_howMany up ud (nI a) = nI (zl_nn up a) := by
  have := zl_hm4 up a hu 42 0 0 (by decide) rfl
  exact this
theorem zl_hct (up : Nat → Int32) {a : Nat} {h : Int64} (hh : ∀ c, zs_in h c = (decide (c < 42) && zl_p up a c)) : zs_ct h = zl_nn up a :=
  fb_ct_cong (fun c hc => by rw [hh]; simp [hc])
theorem zl_hw (up : Nat → Int32) {a : Nat} {h : Int64} (hh : ∀ c, zs_in h c = (decide (c < 42) && zl_p up a c)) : zs_w h := by
  intro c hc
  rw [hh]
  have : ¬ c < 42 := by omega
  simp [this]
abbrev zr_hand (up : Nat → Int32) (a : Nat) (h : Int64) : Prop := ∀ c, zs_in h c = (decide (c < 42) && zl_p up a c)
theorem zh_of5 (up : Nat → Int32) (x0 : Int32) {p : Nat} (hp : p < 100) : ∀ (n i : Nat) (y : Int32), i + n ≤ 40 → (j_X3_hasOf_5 up x0 (nI p) n i y = 0 ↔ (y = 0 ∧ ∀ c, i ≤ c → c < i + n → ¬ (up c = x0 ∧ c / 10 = p)))
  | 0, i, y, _ => by
    show y = 0 ↔ _
    exact ⟨fun h => ⟨h, fun c h1 h2 => by omega⟩, fun h => h.1⟩
  | n + 1, i, y, hi => by
    have ih := fun y => zh_of5 up x0 hp n (i + 1) y (by omega)
    rw [j_X3_hasOf_5, nI_clamp (by omega), zm_prov i (by omega)]
    have lift : (∀ c, i + 1 ≤ c → c < i + 1 + n → ¬ (up c = x0 ∧ c / 10 = p)) → ¬ (up i = x0 ∧ i / 10 = p) → ∀ c, i ≤ c → c < i + (n + 1) → ¬ (up c = x0 ∧ c / 10 = p) := by
      intro h1 h2 c hc1 hc2
      rcases Nat.lt_or_ge i c with q | q
      · exact h1 c q (by omega)
      · have : c = i := by omega
        subst this
        exact h2
    have low : (∀ c, i ≤ c → c < i + (n + 1) → ¬ (up c = x0 ∧ c / 10 = p)) → ∀ c, i + 1 ≤ c → c < i + 1 + n → ¬ (up c = x0 ∧ c / 10 = p) := fun h c h1 h2 => h c (by omega) (by omega)
    by_cases y0 : y = 0
    · rw [if_pos y0]
      by_cases u : up i = x0
      · rw [if_pos u]
        by_cases v : i / 10 = p
        · have v' : nI (i / 10) = nI p := by rw [v]
          rw [if_pos v', ih 1]
          exact ⟨fun k => absurd k.1 (by decide), fun k => absurd ⟨u, v⟩ (k.2 i (Nat.le_refl _) (by omega))⟩
        · have v' : ¬ nI (i / 10) = nI p := fun e => v ((nI_eq (by omega) (by omega)).mp e)
          rw [if_neg v', ih 0]
          exact ⟨fun k => ⟨y0, lift k.2 (fun w => v w.2)⟩, fun k => ⟨rfl, low k.2⟩⟩
      · rw [if_neg u, ih 0]
        exact ⟨fun k => ⟨y0, lift k.2 (fun w => u w.1)⟩, fun k => ⟨rfl, low k.2⟩⟩
    · rw [if_neg y0, ih 1]
      exact ⟨fun k => absurd k.1 (by decide), fun k => absurd k.1 y0⟩
theorem zh_of {up : Nat → Int32} {a p : Nat} {h : Int64} (hp : p < 100) (hh : zr_hand up a h) : j_X3_hasOf up (nI a) (nI p) = 0 ↔ ¬ zs_sE h p := by
  refine (zh_of5 up (nI a) hp 40 0 0 (by decide)).trans ⟨fun k => ?_, fun k => ⟨rfl, fun c _ hc w => k ⟨c, by omega, w.2, ?_⟩⟩⟩
  · rintro ⟨d, h1, h2, h3⟩
    rw [hh] at h3
    simp [zl_p] at h3
    exact k.2 d (Nat.zero_le _) (by omega) ⟨h3.2, h2⟩
  · rw [hh]
    have : c < 42 := by omega
    simp [zl_p, this, w.1]
theorem zh_dated {up : Nat → Int32} {a : Nat} {h : Int64} (hh : zr_hand up a h) : j_X3_hasDated up (nI a) = 0 ↔ ∀ c, c < 40 → zs_in h c = false := by
  have e0 : j_X3_hasOf up (nI a) 0 = 0 ↔ ¬ zs_sE h 0 := zh_of (by decide) hh
  have e1 : j_X3_hasOf up (nI a) 1 = 0 ↔ ¬ zs_sE h 1 := zh_of (by decide) hh
  have e2 : j_X3_hasOf up (nI a) 2 = 0 ↔ ¬ zs_sE h 2 := zh_of (by decide) hh
  have e3 : j_X3_hasOf up (nI a) 3 = 0 ↔ ¬ zs_sE h 3 := zh_of (by decide) hh
  have some : ∀ p, zs_sE h p → ¬ ∀ c, c < 40 → zs_in h c = false := by
    rintro p ⟨d, h1, _, h3⟩ k
    rw [k d h1] at h3
    exact absurd h3 (by decide)
  unfold j_X3_hasDated
  by_cases s0 : zs_sE h 0
  · rw [if_neg (fun e => e0.mp e s0)]
    exact ⟨fun e => absurd e (by decide), fun k => absurd k (some 0 s0)⟩
  · rw [if_pos (e0.mpr s0)]
    by_cases s1 : zs_sE h 1
    · rw [if_neg (fun e => e1.mp e s1)]
      exact ⟨fun e => absurd e (by decide), fun k => absurd k (some 1 s1)⟩
    · rw [if_pos (e1.mpr s1)]
      by_cases s2 : zs_sE h 2
      · rw [if_neg (fun e => e2.mp e s2)]
        exact ⟨fun e => absurd e (by decide), fun k => absurd k (some 2 s2)⟩
      · rw [if_pos (e2.mpr s2)]
        by_cases s3 : zs_sE h 3
        · rw [if_neg (fun e => e3.mp e s3)]
          exact ⟨fun e => absurd e (by decide), fun k => absurd k (some 3 s3)⟩
        · rw [if_pos (e3.mpr s3)]
          refine ⟨fun _ c hc => ?_, fun _ => rfl⟩
          cases r : zs_in h c with
          | false => rfl
          | true =>
            have : c / 10 = 0 ∨ c / 10 = 1 ∨ c / 10 = 2 ∨ c / 10 = 3 := by omega
            rcases this with q | q | q | q
            · exact absurd ⟨c, hc, q, r⟩ s0
            · exact absurd ⟨c, hc, q, r⟩ s1
            · exact absurd ⟨c, hc, q, r⟩ s2
            · exact absurd ⟨c, hc, q, r⟩ s3
theorem zr_mh {up : Nat → Int32} {a : Nat} {vh1 vh2 : Int64} (ha : a < 2) (h1 : zr_hand up 0 vh1) (h2 : zr_hand up 1 vh2) : zr_hand up a (j_X2_moversHand (nI a) vh1 vh2) := by
  have : a = 0 ∨ a = 1 := by omega
  rcases this with e | e
  · subst e
    unfold j_X2_moversHand
    rw [if_pos (by decide)]
    exact h1
  · subst e
    unfold j_X2_moversHand
    rw [if_neg (by decide)]
    exact h2
def zr_led (led : Int32) : Prop := led = (-1) ∨ ∃ l, l < 42 ∧ led = nI l
theorem zr_why1 {up : Nat → Int32} {a t c : Nat} {vdrawn udrawn ud uon led : Int32} {vh1 vh2 : Int64} (ha : a < 2) (ht : t < 4) (hc : c < 42) (h1 : zr_hand up 0 vh1) (h2 : zr_hand up 1 vh2) (hon : ¬ uon = 0) (hl : zr_led led) (hp : 42 ≤ vdrawn ↔ ¬ 0 < j_X3_inPile udrawn ud) :
    j_X3_why up udrawn ud uon (nI a) led (nI t) (nI c) = j_X2_reasonAgainst vdrawn (nI t) led (nI a) vh1 vh2 (nI c) := by
  have hm := zr_mh ha h1 h2
  unfold j_X3_why j_X2_reasonAgainst
  have a1 : ¬ nI a = (-1) := zs_nm1 a (by omega)
  rw [if_neg hon, if_neg a1, nI_clamp (by omega)]
  generalize j_X2_moversHand (nI a) vh1 vh2 = h at hm
  by_cases u : up c = nI a
  · have hi : zs_in h c = true := by rw [hm]; simp [zl_p, hc, u]
    have hn : ¬ j_X2_has h (nI c) = 0 := fun e => by
      rw [(zs_has (by omega) h).mp e] at hi
      exact absurd hi (by decide)
    rw [if_pos u, if_neg hn]
    rcases hl with hl | ⟨l, hl, e⟩
    · subst hl
      rw [if_neg (by decide), if_pos rfl]
      unfold j_X2_reasonAgainstLeading
      by_cases q : c < 40
      · rw [if_pos ((zm_mil3 c hc).mpr q), if_pos ((zs_mil c hc).mpr q)]
      · rw [if_neg (fun e => q ((zm_mil3 c hc).mp e)), if_neg (fun e => q ((zs_mil c hc).mp e))]
        by_cases s : ∀ c, c < 40 → zs_in h c = false
        · rw [if_pos ((zh_dated hm).mpr s), if_pos ((zs_dated h).mpr s)]
        · rw [if_neg (fun e => s ((zh_dated hm).mp e)), if_neg (fun e => s ((zs_dated h).mp e))]
    · subst e
      rw [if_pos (nI_pos' (by omega)), if_neg (zs_nm1 l hl)]
      by_cases pl : 0 < j_X3_inPile udrawn ud
      · rw [if_pos pl, if_neg (fun e => hp.mp e pl)]
      · rw [if_neg pl, if_pos (hp.mpr pl)]
        unfold j_X2_reasonAgainstReplying
        by_cases q : l < 40
        · have hp4 : l / 10 < 4 := by omega
          rw [if_pos ((zm_mil3 l hl).mpr q), if_pos ((zs_mil l hl).mpr q), zm_prov l hl, zs_div l hl]
          by_cases s : zs_sE h (l / 10)
          · rw [if_neg (fun e => (zh_of (by omega) hm).mp e s), if_neg (fun e => (zs_suitE hp4 h).mp e s)]
            by_cases w : c < 40 ∧ c / 10 = l / 10
            · have w2 : nI (c / 10) = nI (l / 10) := by rw [w.2]
              rw [if_pos ((zm_mil3 c hc).mpr w.1), zm_prov c hc, if_pos w2, if_neg (fun e => (zs_hasA hp4 hc hi).mp e w)]
            · rw [if_pos ((zs_hasA hp4 hc hi).mpr w)]
              by_cases w1 : c < 40
              · have w2 : ¬ nI (c / 10) = nI (l / 10) := fun e => w ⟨w1, (nI_eq (by omega) (by omega)).mp e⟩
                rw [if_pos ((zm_mil3 c hc).mpr w1), zm_prov c hc, if_neg w2]
              · rw [if_neg (fun e => w1 ((zm_mil3 c hc).mp e))]
          · rw [if_pos ((zh_of (by omega) hm).mpr s), if_pos ((zs_suitE hp4 h).mpr s)]
            by_cases v : zs_sE h t
            · rw [if_neg (fun e => (zh_of (by omega) hm).mp e v), if_neg (fun e => (zs_suitE ht h).mp e v)]
              by_cases w : c < 40 ∧ c / 10 = t
              · rw [if_neg (fun e => (zm_trump ht hc).mp e w), if_neg (fun e => (zs_hasA ht hc hi).mp e w)]
              · rw [if_pos ((zm_trump ht hc).mpr w), if_pos ((zs_hasA ht hc hi).mpr w)]
            · rw [if_pos ((zh_of (by omega) hm).mpr v), if_pos ((zs_suitE ht h).mpr v)]
        · rw [if_neg (fun e => q ((zm_mil3 l hl).mp e)), if_neg (fun e => q ((zs_mil l hl).mp e))]
  · have hi : zs_in h c = false := by rw [hm]; simp [zl_p, u]
    rw [if_neg u, if_pos ((zs_has (by omega) h).mpr hi)]
theorem zr_why0 {up : Nat → Int32} {vdrawn udrawn ud uon uturn vtr utr vled uled vmov x : Int32} {vh1 vh2 : Int64} (hon : uon = 0) (hm : vmov = (-1)) : j_X3_why up udrawn ud uon uturn uled utr x = j_X2_reasonAgainst vdrawn vtr vled vmov vh1 vh2 x := by
  unfold j_X3_why j_X2_reasonAgainst
  rw [if_pos hon, if_pos hm]
def zc_dig (f : Nat → Nat) : Nat → Nat
  | 0 => 0
  | n + 1 => f 0 + 256 * zc_dig (fun k => f (k + 1)) n
theorem zc_and {a A m M : Nat} (ha : a < 256) (hm : m < 256) : (a + 256 * A) &&& (m + 256 * M) = (a &&& m) + 256 * (A &&& M) := by
  have h1 := Nat.and_div_two_pow (a := a + 256 * A) (b := m + 256 * M) (n := 8)
  have h2 := Nat.and_mod_two_pow (a := a + 256 * A) (b := m + 256 * M) (n := 8)
  have e : (2 : Nat) ^ 8 = 256 := by decide
  rw [e] at h1 h2
  rw [show (a + 256 * A) / 256 = A by omega, show (m + 256 * M) / 256 = M by omega] at h1
  rw [show (a + 256 * A) % 256 = a by omega, show (m + 256 * M) % 256 = m by omega] at h2
  omega
theorem zc_digA (f : Nat → Nat) (m : Nat) (hm : m < 256) : ∀ (n : Nat) (f : Nat → Nat), (∀ k, k < n → f k < 256) → zc_dig f n &&& zc_dig (fun _ => m) n = zc_dig (fun k => f k &&& m) n
  | 0, _, _ => by
    show 0 &&& 0 = 0
    decide
  | n + 1, f, h => by
    show (f 0 + 256 * zc_dig (fun k => f (k + 1)) n) &&& (m + 256 * zc_dig (fun _ => m) n) = (f 0 &&& m) + 256 * zc_dig (fun k => f (k + 1) &&& m) n
    rw [zc_and (h 0 (by omega)) hm, zc_digA f m hm n (fun k => f (k + 1)) (fun k hk => h (k + 1) (by omega))]
theorem zc_sh {a A m M s : Nat} (ha : a < 256) (hs : s < 8) (hm : m < 2 ^ (8 - s)) : ((a + 256 * A) / 2 ^ s) &&& (m + 256 * M) = (a / 2 ^ s &&& m) + 256 * ((A / 2 ^ s) &&& M) := by
  have hm8 : m < 256 := by
    have : 2 ^ (8 - s) ≤ 2 ^ 8 := Nat.pow_le_pow_right (by decide) (by omega)
    have e : (2 : Nat) ^ 8 = 256 := by decide
    omega
  have e8 : (256 : Nat) = 2 ^ s * 2 ^ (8 - s) := by rw [← Nat.pow_add, show s + (8 - s) = 8 by omega]
  have hp : 0 < 2 ^ s := Nat.two_pow_pos s
  have hq : 0 < 2 ^ (8 - s) := Nat.two_pow_pos _
  have d1 : (a + 256 * A) / 2 ^ s = a / 2 ^ s + 2 ^ (8 - s) * A := by
    rw [e8, Nat.mul_assoc, Nat.add_mul_div_left _ _ hp]
  have la : a / 2 ^ s < 2 ^ (8 - s) := (Nat.div_lt_iff_lt_mul hp).mpr (by rw [Nat.mul_comm, ← e8]; exact ha)
  -- the low byte of it
  have lo : (a / 2 ^ s + 2 ^ (8 - s) * A) % 256 &&& m = a / 2 ^ s &&& m := by
    apply Nat.eq_of_testBit_eq
    intro i
    rw [Nat.testBit_and, Nat.testBit_and]
    rcases Nat.lt_or_ge i (8 - s) with h | h
    · have t : ((a / 2 ^ s + 2 ^ (8 - s) * A) % 256).testBit i = (a / 2 ^ s).testBit i := by
        rw [show (256 : Nat) = 2 ^ 8 from rfl, Nat.testBit_mod_two_pow]
        have i8 : i < 8 := by omega
        rw [decide_eq_true i8, Bool.true_and, Nat.add_comm, Nat.testBit_two_pow_mul_add _ la]
        rw [if_pos h]
      rw [t]
    · have : m.testBit i = false := Nat.testBit_lt_two_pow (Nat.lt_of_lt_of_le hm (Nat.pow_le_pow_right (by decide) h))
      rw [this, Bool.and_false, Bool.and_false]
  have h1 := Nat.and_div_two_pow (a := a / 2 ^ s + 2 ^ (8 - s) * A) (b := m + 256 * M) (n := 8)
  have h2 := Nat.and_mod_two_pow (a := a / 2 ^ s + 2 ^ (8 - s) * A) (b := m + 256 * M) (n := 8)
  have e : (2 : Nat) ^ 8 = 256 := by decide
  rw [e] at h1 h2
  have d2 : (a / 2 ^ s + 2 ^ (8 - s) * A) / 256 = A / 2 ^ s := by
    rw [← d1, Nat.div_div_eq_div_mul, Nat.mul_comm (2 ^ s) 256, ← Nat.div_div_eq_div_mul, show (a + 256 * A) / 256 = A by omega]
  rw [d2, show (m + 256 * M) / 256 = M by omega] at h1
  rw [show (m + 256 * M) % 256 = m by omega, lo] at h2
  rw [d1]
  omega
theorem zc_digS (m s : Nat) (hs : s < 8) (hm : m < 2 ^ (8 - s)) : ∀ (n : Nat) (f : Nat → Nat), (∀ k, k < n → f k < 256) → (zc_dig f n / 2 ^ s) &&& zc_dig (fun _ => m) n = zc_dig (fun k => f k / 2 ^ s &&& m) n
  | 0, f, _ => by
    show (0 / 2 ^ s) &&& 0 = 0
    rw [Nat.and_zero]
  | n + 1, f, h => by
    show ((f 0 + 256 * zc_dig (fun k => f (k + 1)) n) / 2 ^ s) &&& (m + 256 * zc_dig (fun _ => m) n) = (f 0 / 2 ^ s &&& m) + 256 * zc_dig (fun k => f (k + 1) / 2 ^ s &&& m) n
    rw [zc_sh (h 0 (by omega)) hs hm, zc_digS m s hs hm n (fun k => f (k + 1)) (fun k hk => h (k + 1) (by omega))]
theorem zc_digAdd : ∀ (n : Nat) (f g : Nat → Nat), zc_dig f n + zc_dig g n = zc_dig (fun k => f k + g k) n
  | 0, _, _ => rfl
  | n + 1, f, g => by
    have ih := zc_digAdd n (fun k => f (k + 1)) (fun k => g (k + 1))
    show (f 0 + 256 * zc_dig (fun k => f (k + 1)) n) + (g 0 + 256 * zc_dig (fun k => g (k + 1)) n) = (f 0 + g 0) + 256 * zc_dig (fun k => f (k + 1) + g (k + 1)) n
    omega
theorem zc_digSub : ∀ (n : Nat) (f g : Nat → Nat), (∀ k, k < n → g k ≤ f k) → zc_dig f n - zc_dig g n = zc_dig (fun k => f k - g k) n ∧ zc_dig g n ≤ zc_dig f n
  | 0, _, _, _ => ⟨rfl, Nat.le_refl _⟩
  | n + 1, f, g, h => by
    obtain ⟨i1, i2⟩ := zc_digSub n (fun k => f (k + 1)) (fun k => g (k + 1)) (fun k hk => h (k + 1) (by omega))
    have h0 := h 0 (by omega)
    constructor
    · show (f 0 + 256 * zc_dig (fun k => f (k + 1)) n) - (g 0 + 256 * zc_dig (fun k => g (k + 1)) n) = (f 0 - g 0) + 256 * zc_dig (fun k => f (k + 1) - g (k + 1)) n
      omega
    · show g 0 + 256 * zc_dig (fun k => g (k + 1)) n ≤ f 0 + 256 * zc_dig (fun k => f (k + 1)) n
      omega
theorem zc_of : ∀ (n x : Nat), x < 256 ^ n → zc_dig (fun k => x / 256 ^ k % 256) n = x
  | 0, x, h => by
    have : x = 0 := by
      have e : (256 : Nat) ^ 0 = 1 := rfl
      omega
    subst this; rfl
  | n + 1, x, h => by
    have ih := zc_of n (x / 256) (by rw [Nat.pow_succ] at h; exact (Nat.div_lt_iff_lt_mul (by decide)).mpr h)
    show x / 256 ^ 0 % 256 + 256 * zc_dig (fun k => x / 256 ^ (k + 1) % 256) n = x
    have e : (fun k => x / 256 ^ (k + 1) % 256) = (fun k => x / 256 / 256 ^ k % 256) := by
      funext k
      rw [Nat.pow_succ, Nat.mul_comm, Nat.div_div_eq_div_mul]
    rw [e, ih, Nat.pow_zero, Nat.div_one]
    omega
abbrev zc_s1 (b : Nat) : Nat := b - (b / 2 ^ 1 &&& 85)
abbrev zc_s2 (b : Nat) : Nat := (zc_s1 b &&& 51) + (zc_s1 b / 2 ^ 2 &&& 51)
theorem zc_b1 : ∀ b, b < 256 → (b / 2 ^ 1 &&& 85) ≤ b ∧ zc_s1 b < 256 ∧ zc_s2 b < 256 ∧ (zc_s2 b + zc_s2 b / 2 ^ 4 < 256) ∧ zc_s2 b % 16 ≤ 4 ∧ zc_s2 b / 16 ≤ 4 ∧ zc_s2 b % 16 + zc_s2 b / 16 = fb_ct b.testBit 8 := by decide +kernel
/-- nibbles, at most 4 each: their sum in each byte -/
theorem zc_nib {a A M : Nat} (h1 : a % 16 ≤ 4) (h2 : a / 16 ≤ 4) (hA : A % 16 ≤ 4) : ((a + 256 * A) + (a + 256 * A) / 16) &&& (15 + 256 * M) = (a % 16 + a / 16) + 256 * ((A + A / 16) &&& M) := by
  have q : (a + 256 * A) + (a + 256 * A) / 16 = (a + a / 16 + 16 * (A % 16)) + 256 * (A + A / 16) := by omega
  have lt : a + a / 16 + 16 * (A % 16) < 256 := by omega
  rw [q, zc_and lt (by decide)]
  have : (a + a / 16 + 16 * (A % 16)) &&& 15 = a % 16 + a / 16 := by
    rw [show (15 : Nat) = 2 ^ 4 - 1 from rfl, Nat.and_two_pow_sub_one_eq_mod]
    omega
  rw [this]
theorem zc_digN : ∀ (n : Nat) (f : Nat → Nat), (∀ k, f k % 16 ≤ 4 ∧ f k / 16 ≤ 4 ∧ f k < 256) → zc_dig f n % 16 ≤ 4 ∧ (zc_dig f n + zc_dig f n / 16) &&& zc_dig (fun _ => 15) n = zc_dig (fun k => f k % 16 + f k / 16) n
  | 0, f, _ => ⟨by show 0 % 16 ≤ 4; decide, by show (0 + 0 / 16) &&& 0 = 0; decide⟩
  | n + 1, f, h => by
    obtain ⟨i1, i2⟩ := zc_digN n (fun k => f (k + 1)) (fun k => h (k + 1))
    have h0 := h 0
    constructor
    · show (f 0 + 256 * zc_dig (fun k => f (k + 1)) n) % 16 ≤ 4
      omega
    · show ((f 0 + 256 * zc_dig (fun k => f (k + 1)) n) + (f 0 + 256 * zc_dig (fun k => f (k + 1)) n) / 16) &&& (15 + 256 * zc_dig (fun _ => 15) n) = (f 0 % 16 + f 0 / 16) + 256 * zc_dig (fun k => f (k + 1) % 16 + f (k + 1) / 16) n
      rw [zc_nib h0.1 h0.2.1 i1, i2]
def zc_sm (f : Nat → Nat) : Nat → Nat
  | 0 => 0
  | n + 1 => zc_sm f n + f n
theorem zc_sm_succ (f : Nat → Nat) (n : Nat) : zc_sm f (n + 1) = zc_sm f n + f n := rfl
theorem zc_ct8 (x : Nat) : ∀ n, fb_ct x.testBit (8 * n) = zc_sm (fun k => fb_ct (x / 256 ^ k % 256).testBit 8) n
  | 0 => rfl
  | n + 1 => by
    rw [zc_sm_succ, ← zc_ct8 x n, show 8 * (n + 1) = 8 * n + 8 by omega, fb_ct_split]
    congr 1
    refine fb_ct_cong (fun k hk => ?_)
    rw [show (256 : Nat) = 2 ^ 8 from rfl, ← Nat.pow_mul, Nat.testBit_mod_two_pow, decide_eq_true hk, Bool.true_and, Nat.testBit_div_two_pow, Nat.add_comm]
/-- the whole count, on Nat -/
def zc_pop (x : Nat) : Nat :=
  let a := x - (x / 2 &&& 6148914691236517205)
  let b := (a &&& 3689348814741910323) + (a / 4 &&& 3689348814741910323)
  let d := (b + b / 16) &&& 1085102592571150095
  let e := d + d / 256
  let f := e + e / 65536
  let g := f + f / 4294967296
  g % 128
theorem zc_fin {p0 p1 p2 p3 p4 p5 p6 p7 d e f g : Nat} (h0 : p0 ≤ 8) (h1 : p1 ≤ 8) (h2 : p2 ≤ 8) (h3 : p3 ≤ 8) (h4 : p4 ≤ 8) (h5 : p5 ≤ 8) (h6 : p6 ≤ 8) (h7 : p7 ≤ 8)
    (hd : d = p0 + 256 * (p1 + 256 * (p2 + 256 * (p3 + 256 * (p4 + 256 * (p5 + 256 * (p6 + 256 * (p7 + 256 * 0)))))))) (he : e = d + d / 256) (hf : f = e + e / 65536) (hg : g = f + f / 4294967296) : g % 128 = p0 + p1 + p2 + p3 + p4 + p5 + p6 + p7 := by
  have x7 : ∃ r, r = p7 + 256 * 0 := ⟨_, rfl⟩
  obtain ⟨r7, e7⟩ := x7
  rw [← e7] at hd
  have x6 : ∃ r, r = p6 + 256 * r7 := ⟨_, rfl⟩
  obtain ⟨r6, e6⟩ := x6
  rw [← e6] at hd
  have x5 : ∃ r, r = p5 + 256 * r6 := ⟨_, rfl⟩
  obtain ⟨r5, e5⟩ := x5
  rw [← e5] at hd
  have x4 : ∃ r, r = p4 + 256 * r5 := ⟨_, rfl⟩
  obtain ⟨r4, e4⟩ := x4
  rw [← e4] at hd
  have x3 : ∃ r, r = p3 + 256 * r4 := ⟨_, rfl⟩
  obtain ⟨r3, e3⟩ := x3
  rw [← e3] at hd
  have x2 : ∃ r, r = p2 + 256 * r3 := ⟨_, rfl⟩
  obtain ⟨r2, e2⟩ := x2
  rw [← e2] at hd
  have x1 : ∃ r, r = p1 + 256 * r2 := ⟨_, rfl⟩
  obtain ⟨r1, e1⟩ := x1
  rw [← e1] at hd
  have q1 : d / 256 = r1 := by clear e1 e2 e3 e4 e5 e6 e7 he hf hg; omega
  have q2 : e = (p0 + p1) + 256 * (p1 + p2) + 65536 * (r2 + r3) := by rw [he, q1]; clear e3 e4 e5 e6 e7 he hf hg q1; omega
  have q3 : e / 65536 = r2 + r3 := by rw [q2]; clear e1 e2 e3 e4 e5 e6 e7 he hf hg hd q1 q2; omega
  have q4 : r2 + r3 = (p2 + p3) + 256 * (p3 + p4) + 65536 * (r4 + r5) := by clear e1 e5 e6 e7 he hf hg hd q1 q2 q3; omega
  have q5 : f = (p0 + p1 + p2 + p3) + 256 * (p1 + p2 + p3 + p4) + 65536 * ((r2 + r3) + (r4 + r5)) := by rw [hf, q3, q2]; clear e1 e2 e3 e4 e5 e6 e7 he hf hg hd q1 q2 q3; omega
  have q6 : r4 + r5 = (p4 + p5) + 256 * (p5 + p6) + 65536 * (r6 + r7) := by clear e1 e2 e3 e7 he hf hg hd q1 q2 q3 q4 q5; omega
  have q7 : f = (p0 + p1 + p2 + p3) + 256 * (p1 + p2 + p3 + p4) + 65536 * (p2 + p3 + p4 + p5) + 16777216 * (p3 + p4 + p5 + p6) + 4294967296 * ((r4 + r5) + (r6 + r7)) := by rw [q5, q4]; clear e1 e2 e3 e4 e5 e6 e7 he hf hg hd q1 q2 q3 q4 q5; omega
  have q8 : f / 4294967296 = (r4 + r5) + (r6 + r7) := by rw [q7]; clear e1 e2 e3 e4 e5 e6 e7 he hf hg hd q1 q2 q3 q4 q5 q6 q7; omega
  have q9 : g = (p0 + p1 + p2 + p3 + p4 + p5 + p6 + p7) + 128 * (2 * (p1 + p2 + p3 + p4) + 512 * (p2 + p3 + p4 + p5) + 131072 * (p3 + p4 + p5 + p6) + 33554432 * ((r4 + r5) + (r6 + r7)) + 2 * (p5 + p6) + 512 * (r6 + r7) + 2 * r7) := by
    rw [hg, q8, q7]; clear e1 e2 e3 e4 e5 he hf hg hd q1 q2 q3 q4 q5 q7 q8; omega
  rw [q9]; clear e1 e2 e3 e4 e5 e6 e7 he hf hg hd q1 q2 q3 q4 q5 q6 q7 q8 q9; omega
theorem zc_popq (x : Nat) (hx : x < 2 ^ 64) : zc_pop x = fb_ct x.testBit 64 := by
  have by8 : ∀ k, x / 256 ^ k % 256 < 256 := fun k => Nat.mod_lt _ (by decide)
  have ex := zc_of 8 x (by have e : (256 : Nat) ^ 8 = 2 ^ 64 := by decide
                           omega)
  have m1 : zc_dig (fun _ => 85) 8 = 6148914691236517205 := by decide
  have m2 : zc_dig (fun _ => 51) 8 = 3689348814741910323 := by decide
  have m3 : zc_dig (fun _ => 15) 8 = 1085102592571150095 := by decide
  have a1 : x - (x / 2 &&& 6148914691236517205) = zc_dig (fun k => zc_s1 (x / 256 ^ k % 256)) 8 := by
    have s := zc_digS 85 1 (by decide) (by decide) 8 (fun k => x / 256 ^ k % 256) (fun k _ => by8 k)
    rw [ex, m1] at s
    have s' : x / 2 &&& 6148914691236517205 = zc_dig (fun k => x / 256 ^ k % 256 / 2 ^ 1 &&& 85) 8 := s
    rw [s']
    have t := (zc_digSub 8 (fun k => x / 256 ^ k % 256) (fun k => x / 256 ^ k % 256 / 2 ^ 1 &&& 85) (fun k _ => (zc_b1 _ (by8 k)).1)).1
    rw [ex] at t
    exact t
  have b1 : (x - (x / 2 &&& 6148914691236517205) &&& 3689348814741910323) + ((x - (x / 2 &&& 6148914691236517205)) / 4 &&& 3689348814741910323) = zc_dig (fun k => zc_s2 (x / 256 ^ k % 256)) 8 := by
    rw [a1]
    have s := zc_digS 51 2 (by decide) (by decide) 8 (fun k => zc_s1 (x / 256 ^ k % 256)) (fun k _ => (zc_b1 _ (by8 k)).2.1)
    have u := zc_digA (fun _ => 0) 51 (by decide) 8 (fun k => zc_s1 (x / 256 ^ k % 256)) (fun k _ => (zc_b1 _ (by8 k)).2.1)
    rw [m2] at s u
    have s' : zc_dig (fun k => zc_s1 (x / 256 ^ k % 256)) 8 / 4 &&& 3689348814741910323 = zc_dig (fun k => zc_s1 (x / 256 ^ k % 256) / 2 ^ 2 &&& 51) 8 := s
    rw [s', u, zc_digAdd]
  have d1 := (zc_digN 8 (fun k => zc_s2 (x / 256 ^ k % 256)) (fun k => ⟨(zc_b1 _ (by8 k)).2.2.2.2.1, (zc_b1 _ (by8 k)).2.2.2.2.2.1, (zc_b1 _ (by8 k)).2.2.1⟩)).2
  rw [m3] at d1
  have pk : ∀ k, zc_s2 (x / 256 ^ k % 256) % 16 + zc_s2 (x / 256 ^ k % 256) / 16 = fb_ct (x / 256 ^ k % 256).testBit 8 := fun k => (zc_b1 _ (by8 k)).2.2.2.2.2.2
  have ct := zc_ct8 x 8
  have le8 : ∀ k, fb_ct (x / 256 ^ k % 256).testBit 8 ≤ 8 := fun k => fb_ct_le _ 8
  have d2 : ((zc_dig (fun k => zc_s2 (x / 256 ^ k % 256)) 8) + (zc_dig (fun k => zc_s2 (x / 256 ^ k % 256)) 8) / 16) &&& 1085102592571150095 = zc_dig (fun k => fb_ct (x / 256 ^ k % 256).testBit 8) 8 := by
    rw [d1]
    congr 1
    funext k
    exact pk k
  show (let a := x - (x / 2 &&& 6148914691236517205); let b := (a &&& 3689348814741910323) + (a / 4 &&& 3689348814741910323); let d := (b + b / 16) &&& 1085102592571150095; let e := d + d / 256; let f := e + e / 65536; let g := f + f / 4294967296; g % 128) = _
  dsimp only
  rw [b1, d2]
  have fin := zc_fin (le8 0) (le8 1) (le8 2) (le8 3) (le8 4) (le8 5) (le8 6) (le8 7) (d := zc_dig (fun k => fb_ct (x / 256 ^ k % 256).testBit 8) 8) rfl rfl rfl rfl
  rw [fin]
  have ct' : fb_ct x.testBit 64 = _ := ct
  rw [ct']
  simp only [zc_sm, Nat.zero_add]
theorem zc_wb (x : Int64) : ∃ n, n < 2 ^ 64 ∧ x = lN n := ⟨x.toBitVec.toNat, x.toBitVec.isLt, by
  apply Int64.toBitVec_inj.mp
  apply BitVec.eq_of_toNat_eq
  show x.toBitVec.toNat = (Int64.ofNat x.toBitVec.toNat).toBitVec.toNat
  rw [Int64.toBitVec_ofNat', BitVec.toNat_ofNat, Nat.mod_eq_of_lt x.toBitVec.isLt]⟩
theorem zc_tn {n : Nat} (h : n < 2 ^ 64) : (lN n).toBitVec.toNat = n := by
  show (Int64.ofNat n).toBitVec.toNat = n
  rw [Int64.toBitVec_ofNat', BitVec.toNat_ofNat, Nat.mod_eq_of_lt h]
theorem zc_inj {a : Int64} {n : Nat} (h : a.toBitVec.toNat = n) : a = lN n := by
  apply Int64.toBitVec_inj.mp
  apply BitVec.eq_of_toNat_eq
  have : n < 2 ^ 64 := by rw [← h]; exact a.toBitVec.isLt
  rw [zc_tn this, h]
theorem zc_ushr {n : Nat} (h : n < 2 ^ 64) {y : UInt64} {k : Nat} (hy : y.toNat = k) (hk : k < 64) : ((lN n).toUInt64 >>> y).toInt64 = lN (n / 2 ^ k) := by
  apply zc_inj
  show ((lN n).toUInt64 >>> y).toNat = n / 2 ^ k
  rw [UInt64.toNat_shiftRight, hy, Nat.mod_eq_of_lt hk, Nat.shiftRight_eq_div_pow]
  congr 1
  exact zc_tn h
theorem zc_andL {a b : Nat} (ha : a < 2 ^ 64) (hb : b < 2 ^ 64) : lN a &&& lN b = lN (a &&& b) := by
  apply zc_inj
  rw [Int64.toBitVec_and, BitVec.toNat_and, zc_tn ha, zc_tn hb]
/-- the JDK's count is the count -/
theorem zc_bit (x : Int64) (hw : zs_w x) : j_J13_bitCount_95d88 x = nI (zs_ct x) := by
  obtain ⟨n, hn, e⟩ := zc_wb x
  have pq := zc_popq n hn
  have ct : zs_ct x = fb_ct n.testBit 64 := by
    rw [← zs_ct64 hw]
    refine fb_ct_cong (fun c _ => ?_)
    unfold zs_in
    rw [e, ← BitVec.testBit_toNat, zc_tn hn]
  rw [ct, ← pq]
  have le1 : n / 2 &&& 6148914691236517205 ≤ n := Nat.le_trans Nat.and_le_left (Nat.div_le_self _ _)
  have le2 : ∀ y m : Nat, m < 2 ^ 62 → (y &&& m) < 2 ^ 62 := fun y m hm => Nat.lt_of_le_of_lt Nat.and_le_right hm
  unfold j_J13_bitCount_95d88
  rw [e]
  have s1 : ((1 : Int32).toInt64.toUInt64 &&& Int64.toUInt64 63).toNat = 1 := by decide
  have s2 : ((2 : Int32).toInt64.toUInt64 &&& Int64.toUInt64 63).toNat = 2 := by decide
  have s4 : ((4 : Int32).toInt64.toUInt64 &&& Int64.toUInt64 63).toNat = 4 := by decide
  have s8 : ((8 : Int32).toInt64.toUInt64 &&& Int64.toUInt64 63).toNat = 8 := by decide
  have s16 : ((16 : Int32).toInt64.toUInt64 &&& Int64.toUInt64 63).toNat = 16 := by decide
  have s32 : ((32 : Int32).toInt64.toUInt64 &&& Int64.toUInt64 63).toNat = 32 := by decide
  have m1 : (6148914691236517205 : Int64) = lN 6148914691236517205 := rfl
  have m2 : (3689348814741910323 : Int64) = lN 3689348814741910323 := rfl
  have m3 : (1085102592571150095 : Int64) = lN 1085102592571150095 := rfl
  rw [m1, m2, m3]
  rw [zc_ushr hn s1 (by decide), zc_andL (Nat.lt_of_le_of_lt (Nat.div_le_self _ _) hn) (by decide), show (2 : Nat) ^ 1 = 2 from rfl, lN_sub le1]
  have ha : n - (n / 2 &&& 6148914691236517205) < 2 ^ 64 := by omega
  generalize hA : n - (n / 2 &&& 6148914691236517205) = a at ha ⊢
  rw [zc_ushr ha s2 (by decide), zc_andL ha (by decide), zc_andL (Nat.lt_of_le_of_lt (Nat.div_le_self _ _) ha) (by decide), show (2 : Nat) ^ 2 = 4 from rfl, lN_add]
  have b1 := le2 a 3689348814741910323 (by decide)
  have b2 := le2 (a / 4) 3689348814741910323 (by decide)
  have hb : (a &&& 3689348814741910323) + (a / 4 &&& 3689348814741910323) < 2 ^ 63 := by omega
  generalize hB : (a &&& 3689348814741910323) + (a / 4 &&& 3689348814741910323) = b at hb ⊢
  rw [zc_ushr (by omega) s4 (by decide), show (2 : Nat) ^ 4 = 16 from rfl, lN_add, zc_andL (by omega) (by decide)]
  have d1 := le2 (b + b / 16) 1085102592571150095 (by decide)
  generalize hD : (b + b / 16) &&& 1085102592571150095 = d at d1 ⊢
  rw [zc_ushr (by omega) s8 (by decide), show (2 : Nat) ^ 8 = 256 from rfl, lN_add]
  have he : d + d / 256 < 2 ^ 63 := by omega
  generalize hE : d + d / 256 = e' at he ⊢
  rw [zc_ushr (by omega) s16 (by decide), show (2 : Nat) ^ 16 = 65536 from rfl, lN_add]
  have hf : e' + e' / 65536 < 2 ^ 64 := by omega
  generalize hF : e' + e' / 65536 = f at hf ⊢
  rw [zc_ushr hf s32 (by decide), show (2 : Nat) ^ 32 = 4294967296 from rfl, lN_add, lN_i]
  have pp : zc_pop n = (f + f / 4294967296) % 128 := by
    unfold zc_pop
    dsimp only
    rw [hA, hB, hD, hE, hF]
  rw [pp, pk_and (nI (f + f / 4294967296)) 7 (by decide)]
  congr 1
  show (Int32.ofNat (f + f / 4294967296)).toBitVec.toNat % 128 = _
  rw [Int32.toBitVec_ofNat', BitVec.toNat_ofNat]
  omega
abbrev zr_s (j : Nat) : Nat := if j < 41 then j + 1 else 12
def zr_row (vrow ur : Nat → Int32) (g inv : Nat → Nat) : Prop := (∀ k, k < 42 → ur k = nI (g k) ∧ g k < 42 ∧ inv (g k) = k) ∧ (∀ j, 12 ≤ j → j < 42 → vrow j = ur (zr_s j))
def zr_lo (up : Nat → Int32) (led : Int32) : Prop := (led = (-1) ∧ ∀ c, c < 42 → ¬ up c = nI 3) ∨ (∃ l, l < 42 ∧ led = nI l ∧ ∀ c, c < 42 → (up c = nI 3 ↔ c = l))
def zr_D (vrow ur up : Nat → Int32) (vdrawn vtr vled : Int32) (vh1 vt1 vh2 vt2 : Int64) (udrawn uon uturn : Int32) : Prop :=
  ∃ (t a b E : Nat) (g inv : Nat → Nat), (t < 4 ∧ vtr = nI t) ∧ (a + b = 1 ∧ uturn = nI a) ∧ (E ≤ 15 ∧ udrawn = nI (2 * E) ∧ vdrawn = nI (12 + 2 * E)) ∧ (zr_hand up 0 vh1 ∧ zr_hand up 1 vh2 ∧ zr_hand up 4 vt1 ∧ zr_hand up 5 vt2) ∧ (∀ c, c < 42 → ∃ v, v < 6 ∧ up c = nI v) ∧ zr_lo up vled ∧ zr_row vrow ur g inv ∧ (∀ j, 12 + 2 * E ≤ j → j < 42 → up (g (zr_s j)) = nI 2) ∧ (zl_nn up 0 ≤ 6 ∧ zl_nn up 1 ≤ 6) ∧
    (uon = 1 → ((vled = (-1) ∧ zl_nn up a = zl_nn up b) ∨ (¬ vled = (-1) ∧ zl_nn up a = zl_nn up b + 1)) ∧ 1 ≤ zl_nn up a ∧ (E < 15 → zl_nn up a = 6))
def zr_R (vrow : Nat → Int32) (vdrawn vtr vled vmov vw1 vw2 : Int32) (vh1 vt1 : Int64) (vp1 vk1 vg1 : Int32) (vh2 vt2 : Int64) (vp2 vk2 vg2 : Int32) (up ur us ut ug uw uh : Nat → Int32) (udrawn udealt uon uturn uled utr : Int32) : Prop :=
  (vw1 = uw 0 ∧ vw2 = uw 1 ∧ vp1 = us 0 ∧ vp2 = us 1 ∧ vk1 = ut 0 ∧ vk2 = ut 1 ∧ vg1 = ug 0 ∧ vg2 = ug 1) ∧ (vled = uled ∧ vtr = utr) ∧ (∀ j, j < 12 → vp_in (uh j) 42) ∧ (uturn = 0 ∨ uturn = 1) ∧ ((uon = 0 ∧ vmov = (-1) ∧ vled = (-1)) ∨ (uon = 1 ∧ vmov = uturn)) ∧ (∀ j, j < 42 → vp_in (ur j) 42) ∧
    ((udealt = 0 ∧ uon = 0 ∧ vtr = (-1) ∧ vdrawn = 42 ∧ udrawn = 0 ∧ vh1 = 0 ∧ vh2 = 0) ∨ (udealt = 1 ∧ zr_D vrow ur up vdrawn vtr vled vh1 vt1 vh2 vt2 udrawn uon uturn))
theorem zr_c0 : (0 : Int32).toNatClampNeg = 0 := by decide
theorem zr_c1 : (1 : Int32).toNatClampNeg = 1 := by decide
theorem zr_card {x : Int32} (h : ¬ j_X2_isCard x = 0) : ∃ c, c < 42 ∧ x = nI c := by
  rcases pk_ix x (n := 42) (by decide) with q | q | ⟨j, hj, e⟩
  · refine absurd ?_ h
    unfold j_X2_isCard
    rw [if_pos q]
  · have q' : (42 : Int32) ≤ x := q
    refine absurd ?_ h
    unfold j_X2_isCard
    by_cases z : x < 0
    · rw [if_pos z]
    · rw [if_neg z, if_pos q']
  · exact ⟨j, hj, e⟩
theorem zr_isCard {c : Nat} (hc : c < 42) : j_X2_isCard (nI c) = 1 := by
  have : ∀ c, c < 42 → j_X2_isCard (nI c) = 1 := by decide +kernel
  exact this c hc
theorem zr_arch {x : Int32} (h : ¬ j_X2_isArchivist x = 0) : x = 0 ∨ x = 1 := by
  by_cases q : x = 0
  · exact Or.inl q
  · by_cases r : x = 1
    · exact Or.inr r
    · refine absurd ?_ h
      unfold j_X2_isArchivist
      rw [if_neg q, if_neg r]
theorem zr_pile {E : Nat} (h : E ≤ 15) : j_X3_inPile (nI (2 * E)) 1 = nI (30 - 2 * E) := by
  unfold j_X3_inPile
  rw [if_neg (by decide)]
  exact pk_sub (a := 30) (b := 2 * E) (by omega)
theorem zr_pileq {E : Nat} (h : E ≤ 15) : (42 : Int32) ≤ nI (12 + 2 * E) ↔ ¬ 0 < j_X3_inPile (nI (2 * E)) 1 := by
  rw [zr_pile h]
  have e1 : (42 : Int32) ≤ nI (12 + 2 * E) ↔ 42 ≤ 12 + 2 * E := nI_leI (a := 42) (by decide) (by omega)
  have e2 : (0 : Int32) < nI (30 - 2 * E) ↔ 0 < 30 - 2 * E := nI_ltI (a := 0) (by decide) (by omega)
  rw [e1, e2]
  omega
theorem zr_ledOf {up : Nat → Int32} {led : Int32} (h : zr_lo up led) : zr_led led := by
  rcases h with ⟨e, _⟩ | ⟨l, hl, e, _⟩
  · exact Or.inl e
  · exact Or.inr ⟨l, hl, e⟩
section ZR
variable {vrow : Nat → Int32} {vdrawn vtr vled vmov vw1 vw2 : Int32} {vh1 vt1 : Int64} {vp1 vk1 vg1 : Int32} {vh2 vt2 : Int64} {vp2 vk2 vg2 : Int32} {up ur us ut ug uw uh : Nat → Int32} {udrawn udealt uon uturn uled utr : Int32}
theorem zr_why (h : zr_R vrow vdrawn vtr vled vmov vw1 vw2 vh1 vt1 vp1 vk1 vg1 vh2 vt2 vp2 vk2 vg2 up ur us ut ug uw uh udrawn udealt uon uturn uled utr) {c : Nat} (hc : c < 42) : j_X3_why up udrawn udealt uon uturn uled utr (nI c) = j_X2_reasonAgainst vdrawn vtr vled vmov vh1 vh2 (nI c) := by
  obtain ⟨_, ⟨el, et⟩, _, _, hm, _, hd⟩ := h
  subst el; subst et
  rcases hm with ⟨m0, m1, _⟩ | ⟨m0, m1⟩
  · exact zr_why0 m0 m1
  · rcases hd with ⟨_, d0, _⟩ | ⟨d0, t, a, b, E, g, inv, ⟨ht, e1⟩, ⟨hab, e2⟩, ⟨hE, e3, e4⟩, ⟨g1, g2, _, _⟩, _, lo, _⟩
    · rw [m0] at d0
      exact absurd d0 (by decide)
    · subst e1; subst e2; subst e3; subst e4; subst d0; subst m1
      exact zr_why1 (by omega) ht hc g1 g2 (by rw [m0]; decide) (zr_ledOf lo) (zr_pileq hE)
theorem zr_whyNot (h : zr_R vrow vdrawn vtr vled vmov vw1 vw2 vh1 vt1 vp1 vk1 vg1 vh2 vt2 vp2 vk2 vg2 up ur us ut ug uw uh udrawn udealt uon uturn uled utr) {x : Int32} (hx : ¬ j_X2_isCard x = 0) : j_X3_whyNot up udrawn udealt uon uturn uled utr x = j_X2_whyNot vdrawn vtr vled vmov vh1 vh2 x := by
  obtain ⟨c, hc, e⟩ := zr_card hx
  subst e
  have hx3 : ¬ j_X3_isCard (nI c) = 0 := hx
  unfold j_X3_whyNot j_X2_whyNot
  rw [if_neg hx3]
  exact zr_why h hc
theorem zr_isPlaying (h : zr_R vrow vdrawn vtr vled vmov vw1 vw2 vh1 vt1 vp1 vk1 vg1 vh2 vt2 vp2 vk2 vg2 up ur us ut ug uw uh udrawn udealt uon uturn uled utr) : j_X2_isPlaying vmov = j_X3_isPlaying uon := by
  obtain ⟨_, _, _, ht, hm, _, _⟩ := h
  unfold j_X2_isPlaying j_X3_isPlaying
  rcases hm with ⟨m0, m1, _⟩ | ⟨m0, m1⟩
  · rw [m0, m1]; decide
  · rw [m0, m1]
    rcases ht with e | e
    · rw [e]; decide
    · rw [e]; decide
theorem zr_turn (h : zr_R vrow vdrawn vtr vled vmov vw1 vw2 vh1 vt1 vp1 vk1 vg1 vh2 vt2 vp2 vk2 vg2 up ur us ut ug uw uh udrawn udealt uon uturn uled utr) : j_X2_turn vmov = j_X3_turn uon uturn := by
  obtain ⟨_, _, _, _, hm, _, _⟩ := h
  unfold j_X2_turn j_X3_turn
  rcases hm with ⟨m0, m1, _⟩ | ⟨m0, m1⟩
  · rw [if_pos m0, m1]
  · rw [if_neg (by rw [m0]; decide), m1]
theorem zr_ledA (h : zr_R vrow vdrawn vtr vled vmov vw1 vw2 vh1 vt1 vp1 vk1 vg1 vh2 vt2 vp2 vk2 vg2 up ur us ut ug uw uh udrawn udealt uon uturn uled utr) : j_X2_led vled = j_X3_led uled := h.2.1.1
theorem zr_trumps (h : zr_R vrow vdrawn vtr vled vmov vw1 vw2 vh1 vt1 vp1 vk1 vg1 vh2 vt2 vp2 vk2 vg2 up ur us ut ug uw uh udrawn udealt uon uturn uled utr) : j_X2_trumps vtr = j_X3_trumps utr := h.2.1.2
theorem zr_won1 (h : zr_R vrow vdrawn vtr vled vmov vw1 vw2 vh1 vt1 vp1 vk1 vg1 vh2 vt2 vp2 vk2 vg2 up ur us ut ug uw uh udrawn udealt uon uturn uled utr) : j_X2_wonByFirst vw1 = j_X3_wonByFirst uw := by
  unfold j_X2_wonByFirst j_X3_wonByFirst
  rw [zr_c0]
  exact h.1.1
theorem zr_won2 (h : zr_R vrow vdrawn vtr vled vmov vw1 vw2 vh1 vt1 vp1 vk1 vg1 vh2 vt2 vp2 vk2 vg2 up ur us ut ug uw uh udrawn udealt uon uturn uled utr) : j_X2_wonBySecond vw2 = j_X3_wonBySecond uw := by
  unfold j_X2_wonBySecond j_X3_wonBySecond
  rw [zr_c1]
  exact h.1.2.1
theorem zr_pileA (h : zr_R vrow vdrawn vtr vled vmov vw1 vw2 vh1 vt1 vp1 vk1 vg1 vh2 vt2 vp2 vk2 vg2 up ur us ut ug uw uh udrawn udealt uon uturn uled utr) : j_X2_pile vdrawn = j_X3_pile udrawn udealt := by
  obtain ⟨_, _, _, _, _, _, hd⟩ := h
  unfold j_X2_pile j_X3_pile
  rcases hd with ⟨d0, _, _, d1, d2, _⟩ | ⟨d0, t, a, b, E, g, inv, _, _, ⟨hE, e3, e4⟩, _⟩
  · rw [d0, d1, d2]; decide
  · rw [d0, e3, e4, zr_pile hE]
    have : (42 : Int32) - nI (12 + 2 * E) = nI (42 - (12 + 2 * E)) := pk_sub (a := 42) (by omega)
    rw [this]
    congr 1
    omega
theorem zr_cards (h : zr_R vrow vdrawn vtr vled vmov vw1 vw2 vh1 vt1 vp1 vk1 vg1 vh2 vt2 vp2 vk2 vg2 up ur us ut ug uw uh udrawn udealt uon uturn uled utr) {x : Int32} (hx : ¬ j_X2_isArchivist x = 0) : j_X2_cards vh1 vh2 x = j_X3_cards up udealt x := by
  obtain ⟨_, _, _, _, _, _, hd⟩ := h
  unfold j_X2_cards j_X3_cards
  have hx3 : ¬ j_X3_isArchivist x = 0 := hx
  rw [if_neg hx3]
  rcases hd with ⟨d0, _, _, _, _, d1, d2⟩ | ⟨d0, t, a, b, E, g, inv, _, _, _, ⟨g1, g2, _, _⟩, _⟩
  · have z : j_X3_howMany up 0 x = 0 := by
      show j_X3_howMany_4 up 0 x 42 0 0 = 0
      rw [j_X3_howMany_4, if_pos rfl]
    rw [d0, d1, d2, z]
    by_cases q : x = 0
    · rw [if_pos q]; decide
    · rw [if_neg q]; decide
  · rw [d0]
    rcases zr_arch hx with e | e
    · subst e
      rw [if_pos rfl, zc_bit vh1 (zl_hw up g1), zl_hct up g1]
      exact (zl_hm up 0 (ud := 1) (by decide)).symm
    · subst e
      rw [if_neg (by decide), zc_bit vh2 (zl_hw up g2), zl_hct up g2]
      exact (zl_hm up 1 (ud := 1) (by decide)).symm
theorem zr_cA {h : Int64} {a : Nat} {x0 : Int32} (vh1 vh2 : Int64) (hh : zr_hand up a h) (hx : ¬ j_X3_isArchivist x0 = 0) (hx0 : x0 = nI a) {ud : Int32} (hu : ¬ ud = 0) {k : Nat} (hk : k < 2 ^ 31) : ∀ (n i j : Nat), i + n ≤ 42 → j ≤ k → j ≤ i →
    (j_X2_cardAt_32 vh1 vh2 x0 (nI k) n i h (nI j) = (-1) ∧ j_X3_cardAt_uthr_10 up ud x0 (nI k) n i (nI (k - j)) = 1) ∨
    (∃ c, c < 42 ∧ j_X2_cardAt_32 vh1 vh2 x0 (nI k) n i h (nI j) = nI c ∧ j_X3_cardAt_10 up ud x0 (nI k) n i (nI (k - j)) = nI c ∧ j_X3_cardAt_uthr_10 up ud x0 (nI k) n i (nI (k - j)) = 0)
  | 0, i, j, _, _, _ => Or.inl ⟨rfl, rfl⟩
  | n + 1, i, j, hi, hj, hji => by
    rw [j_X2_cardAt_32, j_X3_cardAt_10, j_X3_cardAt_uthr_10, if_neg hu, if_neg hu, if_neg hx, if_neg hx, if_neg (nI_pos hk), if_neg (nI_pos hk), nI_clamp (show i < 2 ^ 31 by omega)]
    by_cases u : up i = nI a
    · have hi1 : zs_in h i = true := by
        rw [hh]
        have : i < 42 := by omega
        simp [zl_p, this, u]
      have hn : ¬ j_X2_has h (nI i) = 0 := fun e => by
        rw [(zs_has (by omega) h).mp e] at hi1
        exact absurd hi1 (by decide)
      have u' : up i = x0 := by rw [u, hx0]
      rw [if_neg hn, if_pos u', if_pos u']
      by_cases q : j = k
      · have q1 : nI j = nI k := by rw [q]
        have q2 : nI (k - j) = 0 := by rw [q, Nat.sub_self]; rfl
        rw [if_pos q1, if_pos q2, if_pos q2]
        exact Or.inr ⟨i, by omega, rfl, rfl, rfl⟩
      · have q1 : ¬ nI j = nI k := fun e => q ((nI_eq (by omega) hk).mp e)
        have q2 : ¬ nI (k - j) = 0 := nI_ne0 (by omega) (by omega)
        have q3 : nI (k - j) + (-1) = nI (k - (j + 1)) := by
          rw [show k - j = (k - (j + 1)) + 1 by omega, pk_m1]
        rw [if_neg q1, if_neg q2, if_neg q2, nI_1, q3]
        exact zr_cA vh1 vh2 hh hx hx0 hu hk n (i + 1) (j + 1) (by omega) (by omega) (by omega)
    · have hi1 : zs_in h i = false := by
        rw [hh]
        simp [zl_p, u]
      have u' : ¬ up i = x0 := by rw [hx0]; exact u
      rw [if_pos ((zs_has (by omega) h).mpr hi1), if_neg u', if_neg u']
      exact zr_cA vh1 vh2 hh hx hx0 hu hk n (i + 1) j (by omega) hj (by omega)
theorem zr_cN (vh1 vh2 : Int64) (x0 : Int32) {x1 : Int32} (hx : x1 < 0) (h : Int64) : ∀ (n i j : Nat), i + n ≤ 42 → j ≤ i → j_X2_cardAt_32 vh1 vh2 x0 x1 n i h (nI j) = (-1)
  | 0, _, _, _, _ => rfl
  | n + 1, i, j, hi, hj => by
    rw [j_X2_cardAt_32]
    have e : ¬ nI j = x1 := fun e => by
      rw [← e] at hx
      exact nI_pos (by omega) hx
    by_cases q : j_X2_has h (nI i) = 0
    · rw [if_pos q]
      exact zr_cN vh1 vh2 x0 hx h n (i + 1) j (by omega) (by omega)
    · rw [if_neg q, if_neg e, nI_1]
      exact zr_cN vh1 vh2 x0 hx h n (i + 1) (j + 1) (by omega) (by omega)
theorem zr_c0h (vh1 vh2 : Int64) (x0 x1 : Int32) : ∀ (n i : Nat) (y : Int32), i + n ≤ 42 → j_X2_cardAt_32 vh1 vh2 x0 x1 n i 0 y = (-1)
  | 0, _, _, _ => rfl
  | n + 1, i, y, hi => by
    rw [j_X2_cardAt_32, if_pos ((zs_has (show i < 64 by omega) 0).mpr (zs_0 i))]
    exact zr_c0h vh1 vh2 x0 x1 n (i + 1) y (by omega)
theorem zr_cardAt (h : zr_R vrow vdrawn vtr vled vmov vw1 vw2 vh1 vt1 vp1 vk1 vg1 vh2 vt2 vp2 vk2 vg2 up ur us ut ug uw uh udrawn udealt uon uturn uled utr) {x0 x1 : Int32} (hx : ¬ j_X2_isArchivist x0 = 0) :
    (j_X2_cardAt vh1 vh2 x0 x1 = (-1) ∧ j_X3_cardAt_uthr up udealt x0 x1 = 1) ∨ (¬ j_X2_cardAt vh1 vh2 x0 x1 = (-1) ∧ j_X2_cardAt vh1 vh2 x0 x1 = j_X3_cardAt up udealt x0 x1 ∧ j_X3_cardAt_uthr up udealt x0 x1 = 0) := by
  obtain ⟨_, _, _, _, _, _, hd⟩ := h
  have hx3 : ¬ j_X3_isArchivist x0 = 0 := hx
  rcases hd with ⟨d0, _, _, _, _, d1, d2⟩ | ⟨d0, t, a, b, E, g, inv, _, _, _, ⟨g1, g2, _, _⟩, _⟩
  · refine Or.inl ⟨?_, ?_⟩
    · unfold j_X2_cardAt
      rw [d1, d2]
      by_cases q : x0 = 0
      · rw [if_pos q]; exact zr_c0h _ _ _ _ 42 0 0 (by decide)
      · rw [if_neg q]; exact zr_c0h _ _ _ _ 42 0 0 (by decide)
    · show j_X3_cardAt_uthr_10 up udealt x0 x1 42 0 x1 = 1
      rw [j_X3_cardAt_uthr_10, if_pos d0]
  · subst d0
    obtain ⟨a', h', e1, e2, e3⟩ : ∃ (a' : Nat) (h' : Int64), x0 = nI a' ∧ zr_hand up a' h' ∧ j_X2_cardAt vh1 vh2 x0 x1 = j_X2_cardAt_32 vh1 vh2 x0 x1 42 0 h' 0 := by
      rcases zr_arch hx with e | e
      · exact ⟨0, vh1, e, g1, by unfold j_X2_cardAt; rw [if_pos e]⟩
      · exact ⟨1, vh2, e, g2, by unfold j_X2_cardAt; rw [if_neg (by rw [e]; decide)]⟩
    by_cases q : x1 < 0
    · refine Or.inl ⟨?_, ?_⟩
      · rw [e3]; exact zr_cN vh1 vh2 x0 q h' 42 0 0 (by decide) (by decide)
      · show j_X3_cardAt_uthr_10 up 1 x0 x1 42 0 x1 = 1
        rw [j_X3_cardAt_uthr_10, if_neg (by decide), if_neg hx3, if_pos q]
    · obtain ⟨k, hk, ek⟩ := nI_of q
      subst ek
      have k0 := zr_cA vh1 vh2 e2 hx3 e1 (ud := 1) (by decide) hk 42 0 0 (by decide) (Nat.zero_le _) (Nat.le_refl _)
      rw [Nat.sub_zero] at k0
      rcases k0 with ⟨r1, r2⟩ | ⟨c, hc, r1, r2, r3⟩
      · exact Or.inl ⟨e3.trans r1, r2⟩
      · refine Or.inr ⟨?_, ?_, r3⟩
        · rw [e3]
          intro z
          exact zs_nm1 c hc (r1.symm.trans z)
        · rw [e3]
          exact r1.trans r2.symm
theorem zr_has0 {h : Int64} {v c w : Nat} (hv : v < 6) (hw : w < 6) (hc : c < 42) (hh : zr_hand up v h) (u : up c = nI w) : (j_X2_has h (nI c) = 0) ↔ ¬ w = v := by
  rw [zs_has (by omega), hh]
  by_cases q : w = v
  · subst q; simp [zl_p, hc, u]
  · have : ¬ nI w = nI v := fun e => q ((nI_eq (by omega) (by omega)).mp e)
    simp [zl_p, u, this, q]
theorem zr_placeOf (h : zr_R vrow vdrawn vtr vled vmov vw1 vw2 vh1 vt1 vp1 vk1 vg1 vh2 vt2 vp2 vk2 vg2 up ur us ut ug uw uh udrawn udealt uon uturn uled utr) {x : Int32} (hx : ¬ j_X2_isCard x = 0) : j_X2_placeOf vtr vled vh1 vt1 vh2 vt2 x = j_X3_placeOf up udealt x := by
  obtain ⟨_, _, _, _, _, _, hd⟩ := h
  obtain ⟨c, hc, e⟩ := zr_card hx
  subst e
  have hx3 : ¬ j_X3_isCard (nI c) = 0 := hx
  unfold j_X2_placeOf j_X3_placeOf
  rw [if_neg hx3]
  rcases hd with ⟨d0, _, d1, _⟩ | ⟨d0, t, a, b, E, g, inv, ⟨ht, e1⟩, _, _, ⟨g1, g2, g4, g5⟩, pl, lo, _⟩
  · rw [if_pos d0, if_pos d1]
  · have hv : ¬ vtr = (-1) := by rw [e1]; exact zs_nm1 t (by omega)
    have hdd : ¬ udealt = 0 := by rw [d0]; decide
    rw [if_neg hv, if_neg hdd, nI_clamp (by omega)]
    obtain ⟨w, hw, u⟩ := pl c hc
    rw [u]
    by_cases q0 : w = 0
    · rw [if_neg (fun e => (zr_has0 (by decide) hw hc g1 u).mp e q0), q0]; rfl
    · rw [if_pos ((zr_has0 (by decide) hw hc g1 u).mpr q0)]
      by_cases q1 : w = 1
      · rw [if_neg (fun e => (zr_has0 (by decide) hw hc g2 u).mp e q1), q1]; rfl
      · rw [if_pos ((zr_has0 (by decide) hw hc g2 u).mpr q1)]
        by_cases q4 : w = 4
        · rw [if_neg (fun e => (zr_has0 (by decide) hw hc g4 u).mp e q4), q4]; rfl
        · rw [if_pos ((zr_has0 (by decide) hw hc g4 u).mpr q4)]
          by_cases q5 : w = 5
          · rw [if_neg (fun e => (zr_has0 (by decide) hw hc g5 u).mp e q5), q5]; rfl
          · rw [if_pos ((zr_has0 (by decide) hw hc g5 u).mpr q5)]
            rcases lo with ⟨e, n3⟩ | ⟨l, hl, e, i3⟩
            · have : ¬ w = 3 := fun z => n3 c hc (by rw [u, z])
              rw [if_neg (by rw [e]; exact zs_nm1 c hc), show w = 2 by omega]; rfl
            · by_cases z : c = l
              · have w3 := (i3 c hc).mpr z
                rw [u] at w3
                rw [if_pos (by rw [e, z]), w3]; rfl
              · have w3 : ¬ w = 3 := fun y => z ((i3 c hc).mp (by rw [u, y]))
                rw [if_neg (by rw [e]; exact fun y => z ((nI_eq (by omega) (by omega)).mp y)), show w = 2 by omega]; rfl
theorem zr_of {f : Nat → Int32} {v1 v2 x : Int32} (h1 : v1 = f 0) (h2 : v2 = f 1) (hx : ¬ j_X2_isArchivist x = 0) : (if x = 0 then v1 else v2) = (if j_X3_isArchivist x = 0 then 0 else f x.toNatClampNeg) := by
  have hx3 : ¬ j_X3_isArchivist x = 0 := hx
  rw [if_neg hx3]
  rcases zr_arch hx with e | e
  · subst e; rw [if_pos rfl, h1, zr_c0]
  · subst e; rw [if_neg (by decide), h2, zr_c1]
theorem zr_ch (h : zr_R vrow vdrawn vtr vled vmov vw1 vw2 vh1 vt1 vp1 vk1 vg1 vh2 vt2 vp2 vk2 vg2 up ur us ut ug uw uh udrawn udealt uon uturn uled utr) : ∀ (n i : Nat) (y : Int32), i + n ≤ 42 → j_X2_choices_4 vdrawn vtr vled vmov vh1 vh2 n i y = j_X3_choices_9 up udrawn udealt uon uturn uled utr n i y
  | 0, _, _, _ => rfl
  | n + 1, i, y, hi => by
    rw [j_X2_choices_4, j_X3_choices_9, zr_why h (show i < 42 by omega), show y + 0 = y from Int32.add_zero _]
    by_cases q : j_X2_reasonAgainst vdrawn vtr vled vmov vh1 vh2 (nI i) = 0
    · rw [if_pos q, if_pos q]; exact zr_ch h n (i + 1) _ (by omega)
    · rw [if_neg q, if_neg q]; exact zr_ch h n (i + 1) _ (by omega)
theorem zr_choices (h : zr_R vrow vdrawn vtr vled vmov vw1 vw2 vh1 vt1 vp1 vk1 vg1 vh2 vt2 vp2 vk2 vg2 up ur us ut ug uw uh udrawn udealt uon uturn uled utr) : j_X2_choices vdrawn vtr vled vmov vh1 vh2 = j_X3_choices up udrawn udealt uon uturn uled utr := zr_ch h 42 0 0 (by decide)
/-- who takes it -/
theorem zr_taker {t l c : Nat} {m : Int32} (ht : t < 4) (hl : l < 42) (hc : c < 42) : j_X2_takerBy (nI t) (nI l) m (nI c) = (if j_X3_takes (nI t) (nI c) (nI l) = 0 then 1 - m else m) := by
  unfold j_X2_takerBy
  by_cases q : j_X2_beats (nI c) (nI l) (nI t) = 0
  · rw [if_pos q, if_pos ((zm_takes ht hc hl).mpr q)]
  · rw [if_neg q, if_neg (fun e => q ((zm_takes ht hc hl).mp e))]
theorem zr_would (h : zr_R vrow vdrawn vtr vled vmov vw1 vw2 vh1 vt1 vp1 vk1 vg1 vh2 vt2 vp2 vk2 vg2 up ur us ut ug uw uh udrawn udealt uon uturn uled utr) {x : Int32} (hx : ¬ j_X2_isCard x = 0) (h1 : ¬ vled = (-1)) (h2 : ¬ vled = x) : j_X2_wouldTake vtr vled vmov x = j_X3_wouldTake uturn uled utr x ∧ j_X3_wouldTake_uthr uled x = 0 := by
  obtain ⟨_, ⟨el, et⟩, _, _, hm, _, hd⟩ := h
  obtain ⟨c, hc, e⟩ := zr_card hx
  subst e; subst el; subst et
  have hx3 : ¬ j_X3_isCard (nI c) = 0 := hx
  rcases hm with ⟨_, _, m1⟩ | ⟨m0, m1⟩
  · exact absurd m1 h1
  · rcases hd with ⟨_, d0, _⟩ | ⟨d0, t, a, b, E, g, inv, ⟨ht, e1⟩, ⟨hab, e2⟩, _, _, _, lo, _⟩
    · rw [m0] at d0
      exact absurd d0 (by decide)
    · rcases lo with ⟨e, _⟩ | ⟨l, hl, e, _⟩
      · exact absurd e h1
      · subst e; subst e1; subst m1
        unfold j_X2_wouldTake j_X3_wouldTake j_X3_wouldTake_uthr
        rw [if_neg hx3, if_neg hx3, if_neg (nI_pos (show l < 2 ^ 31 by omega)), if_neg (nI_pos (show l < 2 ^ 31 by omega)), if_neg h2, if_neg h2]
        exact ⟨zr_taker ht hl hc, rfl⟩
end ZR
theorem zs_or2 (h : Int64) {l c : Nat} (hl : l < 42) (hc : c < 42) : h ||| ((j_X2_bit (nI l)) ||| (j_X2_bit (nI c))) = (h ||| (j_X2_bit (nI c))) ||| (j_X2_bit (nI l)) := by
  refine zs_ext (fun d _ => ?_)
  rw [zs_or, zs_or, zs_or, zs_or, zs_bit (by omega), zs_bit (by omega)]
  cases zs_in h d <;> cases decide (d = l) <;> cases decide (d = c) <;> rfl
theorem zh_put {up : Nat → Int32} {v x : Nat} {h : Int64} (hx : x < 42) (hh : zr_hand up v h) : zr_hand (upd up x (nI v)) v (h ||| (j_X2_bit (nI x))) := by
  intro c
  rw [zs_add (by omega), hh]
  by_cases q : c = x
  · subst q; simp [zl_p, pk_us, hx]
  · have : upd up x (nI v) c = up c := pk_un q
    simp [zl_p, this, q]
theorem zh_out {up : Nat → Int32} {v w x : Nat} {h : Int64} (hv : v < 6) (hw : w < 6) (hvw : ¬ w = v) (hx : x < 42) (hh : zr_hand up v h) : zr_hand (upd up x (nI w)) v (h &&& ((j_X2_bit (nI x)) ^^^ (-1))) := by
  intro c
  rw [zs_drop (by omega), hh]
  by_cases q : c = x
  · subst q
    have : ¬ nI w = nI v := fun e => hvw ((nI_eq (by omega) (by omega)).mp e)
    simp [zl_p, pk_us, this]
  · have : upd up x (nI w) c = up c := pk_un q
    simp [zl_p, this, q]
theorem zh_keep {up : Nat → Int32} {v w x : Nat} {h : Int64} (hv : v < 6) (hw : w < 6) (hvw : ¬ w = v) (hu : ¬ up x = nI v) (hh : zr_hand up v h) : zr_hand (upd up x (nI w)) v h := by
  intro c
  rw [hh]
  by_cases q : c = x
  · subst q
    have : ¬ nI w = nI v := fun e => hvw ((nI_eq (by omega) (by omega)).mp e)
    simp [zl_p, pk_us, this, hu]
  · have : upd up x (nI w) c = up c := pk_un q
    simp [zl_p, this]
theorem zn_set (up : Nat → Int32) (v : Nat) {x : Nat} (w : Int32) (hx : x < 42) : zl_nn (upd up x w) v + (if up x = nI v then 1 else 0) = zl_nn up v + (if w = nI v then 1 else 0) := by
  have k := fb_ct_upd (zl_p up v) (decide (w = nI v)) hx
  have e : fb_ct (fun k => if k = x then decide (w = nI v) else zl_p up v k) 42 = zl_nn (upd up x w) v :=
    fb_ct_cong (fun c _ => by
      by_cases q : c = x
      · subst q; simp [zl_p, pk_us]
      · have : upd up x w c = up c := pk_un q
        simp [zl_p, this, q])
  rw [e] at k
  simpa [zl_p] using k
theorem zn_nI {v w : Nat} (hv : v < 6) (hw : w < 6) : (nI w = nI v) ↔ w = v := nI_eq (by omega) (by omega)
theorem zn_put {up : Nat → Int32} {v w x : Nat} (hv : v < 6) (hw : w < 6) (hx : x < 42) (hu : up x = nI w) (hn : ¬ w = v) : zl_nn (upd up x (nI v)) v = zl_nn up v + 1 := by
  have k := zn_set up v (nI v) hx
  rw [hu, if_neg (fun e => hn ((zn_nI hv hw).mp e)), if_pos rfl] at k
  exact k
theorem zn_out {up : Nat → Int32} {v w x : Nat} (hv : v < 6) (hw : w < 6) (hx : x < 42) (hu : up x = nI v) (hn : ¬ w = v) : zl_nn (upd up x (nI w)) v + 1 = zl_nn up v := by
  have k := zn_set up v (nI w) hx
  rw [hu, if_pos rfl, if_neg (fun e => hn ((zn_nI hv hw).mp e))] at k
  exact k
theorem zn_keep {up : Nat → Int32} {v w y x : Nat} (hv : v < 6) (hw : w < 6) (hy : y < 6) (hx : x < 42) (hu : up x = nI y) (hn : ¬ w = v) (hm : ¬ y = v) : zl_nn (upd up x (nI w)) v = zl_nn up v := by
  have k := zn_set up v (nI w) hx
  rw [hu, if_neg (fun e => hm ((zn_nI hv hy).mp e)), if_neg (fun e => hn ((zn_nI hv hw).mp e))] at k
  exact k
section ZP
variable {vrow : Nat → Int32} {vdrawn vtr vled vmov vw1 vw2 : Int32} {vh1 vt1 : Int64} {vp1 vk1 vg1 : Int32} {vh2 vt2 : Int64} {vp2 vk2 vg2 : Int32} {up ur us ut ug uw uh : Nat → Int32} {udrawn udealt uon uturn uled utr : Int32}
theorem zp_gF (h : zr_R vrow vdrawn vtr vled vmov vw1 vw2 vh1 vt1 vp1 vk1 vg1 vh2 vt2 vp2 vk2 vg2 up ur us ut ug uw uh udrawn udealt uon uturn uled utr) (h0 : ¬ vmov = (-1)) (h1 : vmov = 0) (h2 : vg1 = 0) :
    zr_R vrow vdrawn vtr vled vmov vw1 vw2 vh1 vt1 vp1 vk1 j_X2_putOnGloves_F_vg1 vh2 vt2 vp2 vk2 vg2 up ur us ut (j_X3_putOnGloves_uglv ug uon uturn) uw uh udrawn udealt uon uturn uled utr ∧ j_X2_putOnGloves_F vmov = j_X3_putOnGloves ug uon uturn ∧ j_X3_putOnGloves_uthr ug uon uturn = 0 := by
  obtain ⟨⟨w1, w2, p1, p2, k1, k2, q1, q2⟩, he, hh, ht, hm, hr, hd⟩ := h
  rcases hm with ⟨_, m1, _⟩ | ⟨m0, m1⟩
  · exact absurd m1 h0
  · have o : ¬ uon = 0 := by rw [m0]; decide
    have u0 : uturn = 0 := by rw [← m1, h1]
    have z : ug uturn.toNatClampNeg = 0 := by rw [u0, zr_c0, ← q1, h2]
    unfold j_X3_putOnGloves_uglv j_X3_putOnGloves j_X3_putOnGloves_uthr
    rw [if_neg o, if_pos z, if_neg o, if_pos z, if_neg o, if_pos z]
    refine ⟨⟨⟨w1, w2, p1, p2, k1, k2, ?_, ?_⟩, he, hh, ht, Or.inr ⟨m0, m1⟩, hr, hd⟩, m1, rfl⟩
    · rw [u0, zr_c0, pk_us]; rfl
    · rw [u0, zr_c0, pk_un (by decide)]; exact q2
theorem zp_gG (h : zr_R vrow vdrawn vtr vled vmov vw1 vw2 vh1 vt1 vp1 vk1 vg1 vh2 vt2 vp2 vk2 vg2 up ur us ut ug uw uh udrawn udealt uon uturn uled utr) (h0 : ¬ vmov = (-1)) (h1 : ¬ vmov = 0) (h2 : vg2 = 0) :
    zr_R vrow vdrawn vtr vled vmov vw1 vw2 vh1 vt1 vp1 vk1 vg1 vh2 vt2 vp2 vk2 j_X2_putOnGloves_G_vg2 up ur us ut (j_X3_putOnGloves_uglv ug uon uturn) uw uh udrawn udealt uon uturn uled utr ∧ j_X2_putOnGloves_G vmov = j_X3_putOnGloves ug uon uturn ∧ j_X3_putOnGloves_uthr ug uon uturn = 0 := by
  obtain ⟨⟨w1, w2, p1, p2, k1, k2, q1, q2⟩, he, hh, ht, hm, hr, hd⟩ := h
  rcases hm with ⟨_, m1, _⟩ | ⟨m0, m1⟩
  · exact absurd m1 h0
  · have o : ¬ uon = 0 := by rw [m0]; decide
    have u0 : uturn = 1 := by
      rcases ht with e | e
      · exact absurd (m1.trans e) h1
      · exact e
    have z : ug uturn.toNatClampNeg = 0 := by rw [u0, zr_c1, ← q2, h2]
    unfold j_X3_putOnGloves_uglv j_X3_putOnGloves j_X3_putOnGloves_uthr
    rw [if_neg o, if_pos z, if_neg o, if_pos z, if_neg o, if_pos z]
    refine ⟨⟨⟨w1, w2, p1, p2, k1, k2, ?_, ?_⟩, he, hh, ht, Or.inr ⟨m0, m1⟩, hr, hd⟩, m1, rfl⟩
    · rw [u0, zr_c1, pk_un (by decide)]; exact q1
    · rw [u0, zr_c1, pk_us]; rfl
theorem zd_ix {D : Nat} (hD : D < 30) : ((if 29 ≤ nI D then 12 else 13 + nI D) : Int32).toNatClampNeg = zr_s (12 + D) := by
  have : ∀ D, D < 30 → ((if 29 ≤ nI D then 12 else 13 + nI D) : Int32).toNatClampNeg = zr_s (12 + D) := by decide +kernel
  exact this D hD
theorem zd_up {g inv : Nat → Nat} {D : Nat} (hD : D < 30) (hr : zr_row vrow ur g inv) (x : Int32) : j_X3_draws_uplace up ur (nI D) 1 x = upd up (g (zr_s (12 + D))) x ∧ j_X3_draws_udrawn (nI D) 1 = nI (D + 1) := by
  have p : j_X3_inPile (nI D) 1 = nI (30 - D) := by
    unfold j_X3_inPile
    rw [if_neg (by decide)]
    exact pk_sub (a := 30) (b := D) (by omega)
  have n : ¬ j_X3_inPile (nI D) 1 ≤ 0 := by
    rw [p]; exact nI_nle (by omega) (by omega)
  have s42 : zr_s (12 + D) < 42 := by unfold zr_s; split <;> omega
  unfold j_X3_draws_uplace j_X3_draws_udrawn
  rw [if_neg n, if_neg n, zd_ix hD, (hr.1 _ s42).1, nI_clamp (by have := (hr.1 _ s42).2.1; omega), nI_1]
  exact ⟨rfl, rfl⟩
theorem zd_up0 (x : Int32) : j_X3_draws_uplace up ur (nI 30) 1 x = up ∧ j_X3_draws_udrawn (nI 30) 1 = nI 30 := by
  have n : j_X3_inPile (nI 30) 1 ≤ 0 := by decide
  unfold j_X3_draws_uplace j_X3_draws_udrawn
  rw [if_pos n, if_pos n]
  exact ⟨rfl, rfl⟩
theorem zd_F {g inv : Nat → Nat} {D : Nat} (hD : D < 30) (hr : zr_row vrow ur g inv) (h : Int64) : j_X2_drawFor_F_vh1 vrow (nI (12 + D)) h = h ||| (j_X2_bit (nI (g (zr_s (12 + D))))) ∧ j_X2_drawFor_F_vdrawn (nI (12 + D)) = nI (12 + D + 1) := by
  have s42 : zr_s (12 + D) < 42 := by unfold zr_s; split <;> omega
  have n1 : ¬ nI (12 + D) < 0 := nI_pos (by omega)
  have n2 : ¬ (42 : Int32) ≤ nI (12 + D) := fun e => by
    have := (nI_leI (a := 42) (b := 12 + D) (by decide) (by omega)).mp e
    omega
  unfold j_X2_drawFor_F_vh1 j_X2_drawFor_F_vdrawn
  rw [if_neg n1, if_neg n2, if_neg n1, if_neg n2, nI_clamp (by omega), hr.2 (12 + D) (by omega) (by omega), (hr.1 _ s42).1, nI_1]
  exact ⟨rfl, rfl⟩
theorem zd_F0 (h : Int64) : j_X2_drawFor_F_vh1 vrow (nI 42) h = h ∧ j_X2_drawFor_F_vdrawn (nI 42) = nI 42 := by
  unfold j_X2_drawFor_F_vh1 j_X2_drawFor_F_vdrawn
  rw [if_neg (by decide), if_pos (by decide), if_neg (by decide), if_pos (by decide)]
  exact ⟨rfl, rfl⟩
end ZP
theorem zr_sinj {i j : Nat} (hi : 12 ≤ i) (hi2 : i < 42) (hj : 12 ≤ j) (hj2 : j < 42) (e : zr_s i = zr_s j) : i = j := by
  unfold zr_s at e
  split at e <;> split at e <;> omega
theorem zr_s42 {j : Nat} (h : j < 42) : zr_s j < 42 := by unfold zr_s; split <;> omega
theorem zr_gne {vrow ur : Nat → Int32} {g inv : Nat → Nat} (hr : zr_row vrow ur g inv) {i j : Nat} (hi : 12 ≤ i) (hi2 : i < 42) (hj : 12 ≤ j) (hj2 : j < 42) (n : ¬ i = j) : ¬ g (zr_s i) = g (zr_s j) := by
  intro e
  have a := (hr.1 _ (zr_s42 hi2)).2.2
  have b := (hr.1 _ (zr_s42 hj2)).2.2
  rw [e, b] at a
  exact n (zr_sinj hi hi2 hj hj2 a.symm)
theorem zp_draw {vrow ur u2 : Nat → Int32} {τ σ E : Nat} {g inv : Nat → Nat} {k1 k2 : Int64} (hτ : τ + σ = 1) (hE : E ≤ 15) (hr : zr_row vrow ur g inv) (hp : ∀ j, 12 + 2 * E ≤ j → j < 42 → u2 (g (zr_s j)) = nI 2) (f1 : zr_hand u2 0 k1) (f2 : zr_hand u2 1 k2) (f7 : zl_nn u2 0 = zl_nn u2 1) (f8 : E < 15 → zl_nn u2 0 = 5) (f9 : zl_nn u2 0 ≤ 6) :
    ∃ (U : Nat → Int32) (H1 H2 : Int64) (E' : Nat), (j_X3_draws_uplace (j_X3_draws_uplace u2 ur (nI (2 * E)) 1 (nI τ)) ur (j_X3_draws_udrawn (nI (2 * E)) 1) 1 (nI σ) = U ∧ j_X3_draws_udrawn (j_X3_draws_udrawn (nI (2 * E)) 1) 1 = nI (2 * E') ∧ E' ≤ 15) ∧
      (τ = 0 → j_X2_drawFor_F_vh1 vrow (nI (12 + 2 * E)) k1 = H1 ∧ j_X2_drawFor_G_vh2 vrow (j_X2_drawFor_F_vdrawn (nI (12 + 2 * E))) k2 = H2 ∧ j_X2_drawFor_G_vdrawn (j_X2_drawFor_F_vdrawn (nI (12 + 2 * E))) = nI (12 + 2 * E')) ∧
      (τ = 1 → j_X2_drawFor_F_vh1 vrow (j_X2_drawFor_G_vdrawn (nI (12 + 2 * E))) k1 = H1 ∧ j_X2_drawFor_G_vh2 vrow (nI (12 + 2 * E)) k2 = H2 ∧ j_X2_drawFor_F_vdrawn (j_X2_drawFor_G_vdrawn (nI (12 + 2 * E))) = nI (12 + 2 * E')) ∧
      zr_hand U 0 H1 ∧ zr_hand U 1 H2 ∧ (∀ c, c < 42 → U c = u2 c ∨ (u2 c = nI 2 ∧ (U c = nI 0 ∨ U c = nI 1))) ∧ (∀ j, 12 + 2 * E' ≤ j → j < 42 → U (g (zr_s j)) = nI 2) ∧ zl_nn U 0 = zl_nn U 1 ∧ zl_nn U 0 ≤ 6 ∧ (E' < 15 → zl_nn U 0 = 6) := by
  by_cases e15 : E = 15
  · subst e15
    have z1 := zd_up0 (up := u2) (ur := ur) (nI τ)
    have z2 := zd_up0 (up := u2) (ur := ur) (nI σ)
    have y1 := zd_F0 (vrow := vrow) k1
    have y2 := zd_F0 (vrow := vrow) k2
    refine ⟨u2, k1, k2, 15, ⟨?_, ?_, Nat.le_refl _⟩, fun _ => ⟨y1.1, ?_, ?_⟩, fun _ => ⟨?_, y2.1, ?_⟩, f1, f2, fun c _ => Or.inl rfl, hp, f7, f9, fun h => by omega⟩
    · show j_X3_draws_uplace (j_X3_draws_uplace u2 ur (nI 30) 1 (nI τ)) ur (j_X3_draws_udrawn (nI 30) 1) 1 (nI σ) = u2
      rw [z1.1, z1.2, z2.1]
    · show j_X3_draws_udrawn (j_X3_draws_udrawn (nI 30) 1) 1 = nI 30
      rw [z1.2, z1.2]
    · show j_X2_drawFor_F_vh1 vrow (j_X2_drawFor_F_vdrawn (nI 42)) k2 = k2
      rw [y1.2, y2.1]
    · show j_X2_drawFor_F_vdrawn (j_X2_drawFor_F_vdrawn (nI 42)) = nI 42
      rw [y1.2, y1.2]
    · show j_X2_drawFor_F_vh1 vrow (j_X2_drawFor_F_vdrawn (nI 42)) k1 = k1
      rw [y1.2, y1.1]
    · show j_X2_drawFor_F_vdrawn (j_X2_drawFor_F_vdrawn (nI 42)) = nI 42
      rw [y1.2, y1.2]
  · have hE14 : E < 15 := by omega
    have i1 : 12 + 2 * E < 42 := by omega
    have i2 : 12 + 2 * E + 1 < 42 := by omega
    have d1 : g (zr_s (12 + 2 * E)) < 42 := (hr.1 _ (zr_s42 i1)).2.1
    have d2 : g (zr_s (12 + 2 * E + 1)) < 42 := (hr.1 _ (zr_s42 i2)).2.1
    have v1 : u2 (g (zr_s (12 + 2 * E))) = nI 2 := hp _ (Nat.le_refl _) i1
    have v2 : u2 (g (zr_s (12 + 2 * E + 1))) = nI 2 := hp _ (by omega) i2
    have ne : ¬ g (zr_s (12 + 2 * E + 1)) = g (zr_s (12 + 2 * E)) := zr_gne hr (by omega) i2 (by omega) i1 (by omega)
    have n5 := f8 hE14
    have A1 := fun (u : Nat → Int32) (x : Int32) => zd_up (up := u) (D := 2 * E) (by omega) hr x
    have A2 := fun (u : Nat → Int32) (x : Int32) => zd_up (up := u) (D := 2 * E + 1) (by omega) hr x
    have B1 := fun (h : Int64) => zd_F (D := 2 * E) (by omega) hr h
    have B2 := fun (h : Int64) => zd_F (D := 2 * E + 1) (by omega) hr h
    have B2' : ∀ h : Int64, j_X2_drawFor_F_vh1 vrow (nI (12 + 2 * E + 1)) h = h ||| (j_X2_bit (nI (g (zr_s (12 + 2 * E + 1))))) ∧ j_X2_drawFor_F_vdrawn (nI (12 + 2 * E + 1)) = nI (12 + 2 * (E + 1)) := fun h => B2 h
    have A2' : ∀ (u : Nat → Int32) (x : Int32), j_X3_draws_uplace u ur (nI (2 * E + 1)) 1 x = upd u (g (zr_s (12 + 2 * E + 1))) x ∧ j_X3_draws_udrawn (nI (2 * E + 1)) 1 = nI (2 * (E + 1)) := fun u x => A2 u x
    generalize hd1 : g (zr_s (12 + 2 * E)) = x1 at *
    generalize hd2 : g (zr_s (12 + 2 * E + 1)) = x2 at *
    have far : ∀ j, 12 + 2 * (E + 1) ≤ j → j < 42 → ¬ g (zr_s j) = x1 ∧ ¬ g (zr_s j) = x2 := fun j h1 h2 => ⟨by rw [← hd1]; exact zr_gne hr (by omega) h2 (by omega) i1 (by omega), by rw [← hd2]; exact zr_gne hr (by omega) h2 (by omega) i2 (by omega)⟩
    have T : (τ = 0 ∧ σ = 1) ∨ (τ = 1 ∧ σ = 0) := by omega
    rcases T with ⟨t1, t2⟩ | ⟨t1, t2⟩
    · subst t1; subst t2
      have w2 : (upd u2 x1 (nI 0)) x2 = nI 2 := by rw [pk_un ne]; exact v2
      refine ⟨upd (upd u2 x1 (nI 0)) x2 (nI 1), k1 ||| (j_X2_bit (nI x1)), k2 ||| (j_X2_bit (nI x2)), E + 1, ⟨?_, ?_, by omega⟩, fun _ => ⟨(B1 k1).1, ?_, ?_⟩, fun h => absurd h (by decide), ?_, ?_, fun c hc => ?_, fun j h1 h2 => ?_, ?_, ?_, fun _ => ?_⟩
      · rw [(A1 u2 (nI 0)).1, (A1 u2 (nI 0)).2, (A2' _ (nI 1)).1]
      · rw [(A1 u2 (nI 0)).2, (A2' u2 (nI 1)).2]
      · show j_X2_drawFor_F_vh1 vrow (j_X2_drawFor_F_vdrawn (nI (12 + 2 * E))) k2 = _
        rw [(B1 k1).2, (B2' k2).1]
      · show j_X2_drawFor_F_vdrawn (j_X2_drawFor_F_vdrawn (nI (12 + 2 * E))) = _
        rw [(B1 k1).2, (B2' k2).2]
      · exact zh_keep (by decide) (by decide) (by decide) (by rw [w2]; decide) (zh_put d1 f1)
      · exact zh_put d2 (zh_keep (by decide) (by decide) (by decide) (by rw [v1]; decide) f2)
      · by_cases q2 : c = x2
        · subst q2; exact Or.inr ⟨v2, Or.inr pk_us⟩
        · by_cases q1 : c = x1
          · subst q1; exact Or.inr ⟨v1, Or.inl (by rw [pk_un q2, pk_us])⟩
          · exact Or.inl (by rw [pk_un q2, pk_un q1])
      · obtain ⟨m1, m2⟩ := far j h1 h2
        rw [pk_un m2, pk_un m1]; exact hp j (by omega) h2
      · rw [zn_keep (v := 0) (w := 1) (y := 2) (by decide) (by decide) (by decide) d2 w2 (by decide) (by decide), zn_put (v := 0) (w := 2) (by decide) (by decide) d1 v1 (by decide), zn_put (v := 1) (w := 2) (by decide) (by decide) d2 w2 (by decide), zn_keep (v := 1) (w := 0) (y := 2) (by decide) (by decide) (by decide) d1 v1 (by decide) (by decide), f7]
      · rw [zn_keep (v := 0) (w := 1) (y := 2) (by decide) (by decide) (by decide) d2 w2 (by decide) (by decide), zn_put (v := 0) (w := 2) (by decide) (by decide) d1 v1 (by decide), n5]
        decide
      · rw [zn_keep (v := 0) (w := 1) (y := 2) (by decide) (by decide) (by decide) d2 w2 (by decide) (by decide), zn_put (v := 0) (w := 2) (by decide) (by decide) d1 v1 (by decide), n5]
    · subst t1; subst t2
      have w2 : (upd u2 x1 (nI 1)) x2 = nI 2 := by rw [pk_un ne]; exact v2
      refine ⟨upd (upd u2 x1 (nI 1)) x2 (nI 0), k1 ||| (j_X2_bit (nI x2)), k2 ||| (j_X2_bit (nI x1)), E + 1, ⟨?_, ?_, by omega⟩, fun h => absurd h (by decide), fun _ => ⟨?_, (B1 k2).1, ?_⟩, ?_, ?_, fun c hc => ?_, fun j h1 h2 => ?_, ?_, ?_, fun _ => ?_⟩
      · rw [(A1 u2 (nI 1)).1, (A1 u2 (nI 1)).2, (A2' _ (nI 0)).1]
      · rw [(A1 u2 (nI 1)).2, (A2' u2 (nI 0)).2]
      · show j_X2_drawFor_F_vh1 vrow (j_X2_drawFor_F_vdrawn (nI (12 + 2 * E))) k1 = _
        rw [(B1 k1).2, (B2' k1).1]
      · show j_X2_drawFor_F_vdrawn (j_X2_drawFor_F_vdrawn (nI (12 + 2 * E))) = _
        rw [(B1 k1).2, (B2' k2).2]
      · exact zh_put d2 (zh_keep (by decide) (by decide) (by decide) (by rw [v1]; decide) f1)
      · exact zh_keep (by decide) (by decide) (by decide) (by rw [w2]; decide) (zh_put d1 f2)
      · by_cases q2 : c = x2
        · subst q2; exact Or.inr ⟨v2, Or.inl pk_us⟩
        · by_cases q1 : c = x1
          · subst q1; exact Or.inr ⟨v1, Or.inr (by rw [pk_un q2, pk_us])⟩
          · exact Or.inl (by rw [pk_un q2, pk_un q1])
      · obtain ⟨m1, m2⟩ := far j h1 h2
        rw [pk_un m2, pk_un m1]; exact hp j (by omega) h2
      · rw [zn_put (v := 0) (w := 2) (by decide) (by decide) d2 w2 (by decide), zn_keep (v := 0) (w := 1) (y := 2) (by decide) (by decide) (by decide) d1 v1 (by decide) (by decide), zn_keep (v := 1) (w := 0) (y := 2) (by decide) (by decide) (by decide) d2 w2 (by decide) (by decide), zn_put (v := 1) (w := 2) (by decide) (by decide) d1 v1 (by decide), f7]
      · rw [zn_put (v := 0) (w := 2) (by decide) (by decide) d2 w2 (by decide), zn_keep (v := 0) (w := 1) (y := 2) (by decide) (by decide) (by decide) d1 v1 (by decide) (by decide), n5]
        decide
      · rw [zn_put (v := 0) (w := 2) (by decide) (by decide) d2 w2 (by decide), zn_keep (v := 0) (w := 1) (y := 2) (by decide) (by decide) (by decide) d1 v1 (by decide) (by decide), n5]
theorem zp_over {U : Nat → Int32} {H1 H2 : Int64} (h1 : zr_hand U 0 H1) (h2 : zr_hand U 1 H2) (e : zl_nn U 0 = zl_nn U 1) : (lg_cmp (H1 ||| H2) 0 = 0 ↔ zl_nn U 0 = 0) ∧ (j_X3_howMany U 1 0 + j_X3_howMany U 1 1 = 0 ↔ zl_nn U 0 = 0) := by
  have a0 : j_X3_howMany U 1 0 = nI (zl_nn U 0) := zl_hm U 0 (by decide)
  have a1 : j_X3_howMany U 1 1 = nI (zl_nn U 1) := zl_hm U 1 (by decide)
  have le : zl_nn U 1 ≤ 42 := fb_ct_le _ 42
  constructor
  · have z1 := zs_ct_nil (zl_hw U h1)
    have z2 := zs_ct_nil (zl_hw U h2)
    rw [zl_hct U h1] at z1
    rw [zl_hct U h2] at z2
    rw [zs_cmp]
    constructor
    · intro k
      refine z1.mpr (zs_nil.mpr (fun c hc => ?_))
      have := k c hc
      rw [zs_or] at this
      simp at this
      exact this.1
    · intro k c hc
      rw [zs_or, zs_nil.mp (z1.mp k) c hc, zs_nil.mp (z2.mp (by omega)) c hc]; rfl
  · rw [a0, a1, nI_add, e]
    exact (nI_eq (a := zl_nn U 1 + zl_nn U 1) (b := 0) (by omega) (by decide)).trans (by omega)
section ZP
variable {vrow : Nat → Int32} {vdrawn vtr vled vmov vw1 vw2 : Int32} {vh1 vt1 : Int64} {vp1 vk1 vg1 : Int32} {vh2 vt2 : Int64} {vp2 vk2 vg2 : Int32} {up ur us ut ug uw uh : Nat → Int32} {udrawn udealt uon uturn uled utr x0 : Int32}
theorem zp_w1 (hT : j_X2_takerBy vtr vled vmov x0 = 0 ∨ j_X2_takerBy vtr vled vmov x0 = 1) : j_X2_finishTrick_vw1 vrow vdrawn vtr vled vmov vw1 vh1 vp1 vg1 vh2 vp2 vg2 x0 = if lg_cmp ((j_X2_finishTrick_vh1 vrow vdrawn vtr vled vmov vh1 x0) ||| (j_X2_finishTrick_vh2 vrow vdrawn vtr vled vmov vh2 x0)) 0 = 0 then j_X2_endGame_vw1 vw1 (j_X2_finishTrick_vp1 vtr vled vmov vp1 vg1 x0) (j_X2_finishTrick_vp2 vtr vled vmov vp2 vg2 x0) else vw1 := by
  have n1 : ¬ ((1 : Int32) - 0 = 0) := by decide
  have n2 : (1 : Int32) - 1 = 0 := by decide
  have n3 : ¬ (1 : Int32) = 0 := by decide
  unfold j_X2_finishTrick_vw1 j_X2_finishTrick_vh1 j_X2_finishTrick_vh2 j_X2_finishTrick_vp1 j_X2_finishTrick_vp2
  rcases hT with e | e
  · rw [e]
    by_cases q : vg1 = 1
    · simp only [if_pos q, if_neg n1, if_pos rfl, ite_true]
    · simp only [if_neg q, if_neg n1, if_pos rfl, ite_true]
  · rw [e]
    by_cases q : vg2 = 1
    · simp only [if_pos q, n2, if_neg n3, if_pos rfl, ite_true]
    · simp only [if_neg q, n2, if_neg n3, if_pos rfl, ite_true]
theorem zp_w2 (hT : j_X2_takerBy vtr vled vmov x0 = 0 ∨ j_X2_takerBy vtr vled vmov x0 = 1) : j_X2_finishTrick_vw2 vrow vdrawn vtr vled vmov vw2 vh1 vp1 vg1 vh2 vp2 vg2 x0 = if lg_cmp ((j_X2_finishTrick_vh1 vrow vdrawn vtr vled vmov vh1 x0) ||| (j_X2_finishTrick_vh2 vrow vdrawn vtr vled vmov vh2 x0)) 0 = 0 then j_X2_endGame_vw2 vw2 (j_X2_finishTrick_vp1 vtr vled vmov vp1 vg1 x0) (j_X2_finishTrick_vp2 vtr vled vmov vp2 vg2 x0) else vw2 := by
  have n1 : ¬ ((1 : Int32) - 0 = 0) := by decide
  have n2 : (1 : Int32) - 1 = 0 := by decide
  have n3 : ¬ (1 : Int32) = 0 := by decide
  unfold j_X2_finishTrick_vw2 j_X2_finishTrick_vh1 j_X2_finishTrick_vh2 j_X2_finishTrick_vp1 j_X2_finishTrick_vp2
  rcases hT with e | e
  · rw [e]
    by_cases q : vg1 = 1
    · simp only [if_pos q, if_neg n1, if_pos rfl, ite_true]
    · simp only [if_neg q, if_neg n1, if_pos rfl, ite_true]
  · rw [e]
    by_cases q : vg2 = 1
    · simp only [if_pos q, n2, if_neg n3, if_pos rfl, ite_true]
    · simp only [if_neg q, n2, if_neg n3, if_pos rfl, ite_true]
theorem zp_m (hT : j_X2_takerBy vtr vled vmov x0 = 0 ∨ j_X2_takerBy vtr vled vmov x0 = 1) : j_X2_finishTrick_vmov vrow vdrawn vtr vled vmov vh1 vh2 x0 = if lg_cmp ((j_X2_finishTrick_vh1 vrow vdrawn vtr vled vmov vh1 x0) ||| (j_X2_finishTrick_vh2 vrow vdrawn vtr vled vmov vh2 x0)) 0 = 0 then (-1) else j_X2_takerBy vtr vled vmov x0 := by
  have n1 : ¬ ((1 : Int32) - 0 = 0) := by decide
  have n2 : (1 : Int32) - 1 = 0 := by decide
  have n3 : ¬ (1 : Int32) = 0 := by decide
  unfold j_X2_finishTrick_vmov j_X2_finishTrick_vh1 j_X2_finishTrick_vh2 j_X2_endGame_vmov
  rcases hT with e | e
  · rw [e]
    simp only [if_neg n1, if_pos rfl, ite_true]
  · rw [e]
    simp only [n2, if_neg n3, if_pos rfl, ite_true]
/-- the reference's, in one shape -/
theorem zp_uw : j_X3_ends_uwin up ur us ug uw udrawn udealt uturn uled utr x0 = if (j_X3_howMany (j_X3_ends_uplace up ur udrawn udealt uturn uled utr x0) udealt 0) + (j_X3_howMany (j_X3_ends_uplace up ur udrawn udealt uturn uled utr x0) udealt 1) = 0 then upd (upd uw (0 : Int32).toNatClampNeg ((uw (0 : Int32).toNatClampNeg) + ((if (j_X3_ends_upts us ug uturn uled utr x0) (0 : Int32).toNatClampNeg ≤ (j_X3_ends_upts us ug uturn uled utr x0) (1 : Int32).toNatClampNeg then 0 else 1) : Int32))) (1 : Int32).toNatClampNeg (((upd uw (0 : Int32).toNatClampNeg ((uw (0 : Int32).toNatClampNeg) + ((if (j_X3_ends_upts us ug uturn uled utr x0) (0 : Int32).toNatClampNeg ≤ (j_X3_ends_upts us ug uturn uled utr x0) (1 : Int32).toNatClampNeg then 0 else 1) : Int32))) (1 : Int32).toNatClampNeg) + ((if (j_X3_ends_upts us ug uturn uled utr x0) (1 : Int32).toNatClampNeg ≤ (j_X3_ends_upts us ug uturn uled utr x0) (0 : Int32).toNatClampNeg then 0 else 1) : Int32)) else uw := rfl
theorem zp_uo : j_X3_ends_uon up ur udrawn udealt uon uturn uled utr x0 = if (j_X3_howMany (j_X3_ends_uplace up ur udrawn udealt uturn uled utr x0) udealt 0) + (j_X3_howMany (j_X3_ends_uplace up ur udrawn udealt uturn uled utr x0) udealt 1) = 0 then 0 else uon := rfl
end ZP
theorem zi_tot {a b : Int32} (h : ¬ a ≤ b) : b ≤ a := by
  have : ¬ a.toInt ≤ b.toInt := fun e => h (Int32.le_iff_toInt_le.mpr e)
  exact Int32.le_iff_toInt_le.mpr (by omega)
theorem zp_glv (ug : Nat → Int32) : j_X3_ends_uglv ug 0 = j_X0_loseWornGloves_vg (ug 0) ∧ j_X3_ends_uglv ug 1 = j_X0_loseWornGloves_vg (ug 1) := by
  unfold j_X3_ends_uglv j_X0_loseWornGloves_vg
  rw [zr_c0, zr_c1]
  constructor
  · rw [pk_un (by decide), pk_us]
  · rw [pk_us, pk_un (by decide)]
theorem zp_pts {us ug : Nat → Int32} {t a l c τ : Nat} {vp1 vp2 vg1 vg2 : Int32} (hτ : τ < 2) (Tm : (if j_X3_takes (nI t) (nI c) (nI l) = 0 then 1 - nI a else nI a) = nI τ) (Tc : j_X2_takerBy (nI t) (nI l) (nI a) (nI c) = nI τ) (p1 : vp1 = us 0) (p2 : vp2 = us 1) (q1 : vg1 = ug 0) (q2 : vg2 = ug 1) :
    j_X2_finishTrick_vp1 (nI t) (nI l) (nI a) vp1 vg1 (nI c) = j_X3_ends_upts us ug (nI a) (nI l) (nI t) (nI c) 0 ∧ j_X2_finishTrick_vp2 (nI t) (nI l) (nI a) vp2 vg2 (nI c) = j_X3_ends_upts us ug (nI a) (nI l) (nI t) (nI c) 1 := by
  subst p1; subst p2; subst q1; subst q2
  unfold j_X2_finishTrick_vp1 j_X2_finishTrick_vp2 j_X3_ends_upts
  rw [Tc, Tm, nI_clamp (by omega)]
  have : τ = 0 ∨ τ = 1 := by omega
  rcases this with e | e
  · subst e
    have c0 : nI 0 = 0 := by decide
    rw [if_pos c0, if_pos c0, pk_us, pk_un (by decide)]
    refine ⟨?_, rfl⟩
    by_cases g : ug 0 = 1
    · rw [if_pos g, if_pos g, zm_worth, zm_worth, Int32.add_comm (j_X2_worth (nI l) 1)]
    · rw [if_neg g, if_neg g, zm_worth, zm_worth, Int32.add_comm (j_X2_worth (nI l) 0)]
  · subst e
    have c0 : ¬ nI 1 = 0 := by decide
    rw [if_neg c0, if_neg c0, pk_un (by decide), pk_us]
    refine ⟨rfl, ?_⟩
    by_cases g : ug 1 = 1
    · rw [if_pos g, if_pos g, zm_worth, zm_worth, Int32.add_comm (j_X2_worth (nI l) 1)]
    · rw [if_neg g, if_neg g, zm_worth, zm_worth, Int32.add_comm (j_X2_worth (nI l) 0)]
theorem zp_tks {ut : Nat → Int32} {t a l c τ : Nat} {vk1 vk2 : Int32} (hτ : τ < 2) (Tm : (if j_X3_takes (nI t) (nI c) (nI l) = 0 then 1 - nI a else nI a) = nI τ) (Tc : j_X2_takerBy (nI t) (nI l) (nI a) (nI c) = nI τ) (p1 : vk1 = ut 0) (p2 : vk2 = ut 1) :
    j_X2_finishTrick_vk1 (nI t) (nI l) (nI a) vk1 (nI c) = j_X3_ends_utks ut (nI a) (nI l) (nI t) (nI c) 0 ∧ j_X2_finishTrick_vk2 (nI t) (nI l) (nI a) vk2 (nI c) = j_X3_ends_utks ut (nI a) (nI l) (nI t) (nI c) 1 := by
  subst p1; subst p2
  unfold j_X2_finishTrick_vk1 j_X2_finishTrick_vk2 j_X3_ends_utks
  rw [Tc, Tm, nI_clamp (by omega)]
  have : τ = 0 ∨ τ = 1 := by omega
  rcases this with e | e
  · subst e
    rw [if_pos (by decide), if_pos (by decide), pk_us, pk_un (by decide)]
    exact ⟨rfl, rfl⟩
  · subst e
    rw [if_neg (by decide), if_neg (by decide), pk_un (by decide), pk_us]
    exact ⟨rfl, rfl⟩
section ZP
variable {vrow : Nat → Int32} {vw1 vw2 : Int32} {vt1 : Int64} {vp1 vk1 vg1 : Int32} {vt2 : Int64} {vp2 vk2 vg2 : Int32} {up ur us ut ug uw uh : Nat → Int32}
theorem zp_fin {t a b l c E : Nat} {g inv : Nat → Nat} {k1 k2 : Int64} (ht : t < 4) (hab : a + b = 1) (hE : E ≤ 15) (hl : l < 42) (hc : c < 42) (hr : zr_row vrow ur g inv) (hur : ∀ j, j < 42 → vp_in (ur j) 42) (hp : ∀ j, 12 + 2 * E ≤ j → j < 42 → up (g (zr_s j)) = nI 2) (hpl : ∀ c, c < 42 → ∃ v, v < 6 ∧ up c = nI v) (h3 : ∀ c, c < 42 → (up c = nI 3 ↔ c = l)) (huc : up c = nI a)
    (hk1 : ∀ w, w < 6 → 4 ≤ w → zr_hand (upd up c (nI w)) 0 k1) (hk2 : ∀ w, w < 6 → 4 ≤ w → zr_hand (upd up c (nI w)) 1 k2) (g4 : zr_hand up 4 vt1) (g5 : zr_hand up 5 vt2) (hn : zl_nn up a = zl_nn up b + 1) (hn6 : zl_nn up a ≤ 6) (hn15 : E < 15 → zl_nn up a = 6)
    (hs : vw1 = uw 0 ∧ vw2 = uw 1 ∧ vp1 = us 0 ∧ vp2 = us 1 ∧ vk1 = ut 0 ∧ vk2 = ut 1 ∧ vg1 = ug 0 ∧ vg2 = ug 1) (hh : ∀ j, j < 12 → vp_in (uh j) 42) :
    zr_R vrow (j_X2_finishTrick_vdrawn (nI (12 + 2 * E)) (nI t) (nI l) (nI a) (nI c)) (nI t) (-1) (j_X2_finishTrick_vmov vrow (nI (12 + 2 * E)) (nI t) (nI l) (nI a) k1 k2 (nI c)) (j_X2_finishTrick_vw1 vrow (nI (12 + 2 * E)) (nI t) (nI l) (nI a) vw1 k1 vp1 vg1 k2 vp2 vg2 (nI c)) (j_X2_finishTrick_vw2 vrow (nI (12 + 2 * E)) (nI t) (nI l) (nI a) vw2 k1 vp1 vg1 k2 vp2 vg2 (nI c)) (j_X2_finishTrick_vh1 vrow (nI (12 + 2 * E)) (nI t) (nI l) (nI a) k1 (nI c)) (j_X2_finishTrick_vt1 (nI t) (nI l) (nI a) vt1 (nI c)) (j_X2_finishTrick_vp1 (nI t) (nI l) (nI a) vp1 vg1 (nI c)) (j_X2_finishTrick_vk1 (nI t) (nI l) (nI a) vk1 (nI c)) (j_X2_finishTrick_vg1 vg1) (j_X2_finishTrick_vh2 vrow (nI (12 + 2 * E)) (nI t) (nI l) (nI a) k2 (nI c)) (j_X2_finishTrick_vt2 (nI t) (nI l) (nI a) vt2 (nI c)) (j_X2_finishTrick_vp2 (nI t) (nI l) (nI a) vp2 vg2 (nI c)) (j_X2_finishTrick_vk2 (nI t) (nI l) (nI a) vk2 (nI c)) (j_X2_finishTrick_vg2 vg2) (j_X3_ends_uplace up ur (nI (2 * E)) 1 (nI a) (nI l) (nI t) (nI c)) ur (j_X3_ends_upts us ug (nI a) (nI l) (nI t) (nI c)) (j_X3_ends_utks ut (nI a) (nI l) (nI t) (nI c)) (j_X3_ends_uglv ug) (j_X3_ends_uwin up ur us ug uw (nI (2 * E)) 1 (nI a) (nI l) (nI t) (nI c)) uh (j_X3_ends_udrawn (nI (2 * E)) 1) 1 (j_X3_ends_uon up ur (nI (2 * E)) 1 1 (nI a) (nI l) (nI t) (nI c)) (j_X3_ends_uturn (nI a) (nI l) (nI t) (nI c)) (-1) (nI t) := by
  obtain ⟨w1, w2, p1, p2, n1, n2, q1, q2⟩ := hs
  obtain ⟨τ, σ, hτ, Tm⟩ : ∃ τ σ, τ + σ = 1 ∧ (if j_X3_takes (nI t) (nI c) (nI l) = 0 then 1 - nI a else nI a) = nI τ := by
    by_cases q : j_X3_takes (nI t) (nI c) (nI l) = 0
    · exact ⟨b, a, by omega, by rw [if_pos q, zm_fl hab]⟩
    · exact ⟨a, b, hab, by rw [if_neg q]⟩
  have Tc : j_X2_takerBy (nI t) (nI l) (nI a) (nI c) = nI τ := (zr_taker ht hl hc).trans Tm
  have hτ2 : τ < 2 := by omega
  have T01 : j_X2_takerBy (nI t) (nI l) (nI a) (nI c) = 0 ∨ j_X2_takerBy (nI t) (nI l) (nI a) (nI c) = 1 := by
    rw [Tc]
    have : τ = 0 ∨ τ = 1 := by omega
    rcases this with e | e
    · subst e; exact Or.inl (by decide)
    · subst e; exact Or.inr (by decide)
  have ul : up l = nI 3 := (h3 l hl).mpr rfl
  have hcl : ¬ l = c := by
    intro e
    rw [e, huc] at ul
    have := (zn_nI (v := 3) (w := a) (by decide) (by omega)).mp ul
    omega
  have hab2 : (a = 0 ∧ b = 1) ∨ (a = 1 ∧ b = 0) := by omega
  -- behind the trick, ahead of the draws
  have u1l : (upd up c (nI (4 + τ))) l = nI 3 := by rw [pk_un hcl]; exact ul
  have f1 : zr_hand (upd (upd up c (nI (4 + τ))) l (nI (4 + τ))) 0 k1 := zh_keep (by decide) (by omega) (by omega) (by rw [u1l]; decide) (hk1 (4 + τ) (by omega) (by omega))
  have f2 : zr_hand (upd (upd up c (nI (4 + τ))) l (nI (4 + τ))) 1 k2 := zh_keep (by decide) (by omega) (by omega) (by rw [u1l]; decide) (hk2 (4 + τ) (by omega) (by omega))
  have cn : ∀ v, 4 ≤ v → v < 6 → ¬ up c = nI v := fun v h1 h2 e => by
    rw [huc] at e
    have := (zn_nI (v := v) (w := a) h2 (by omega)).mp e
    omega
  have f4 : zr_hand (upd (upd up c (nI (4 + τ))) l (nI (4 + τ))) 4 (j_X2_finishTrick_vt1 (nI t) (nI l) (nI a) vt1 (nI c)) := by
    unfold j_X2_finishTrick_vt1
    rw [Tc]
    have : τ = 0 ∨ τ = 1 := by omega
    rcases this with e | e
    · subst e
      rw [if_pos (by decide), zs_or2 _ hl hc]
      exact zh_put hl (zh_put hc g4)
    · subst e
      rw [if_neg (by decide)]
      exact zh_keep (by decide) (by decide) (by decide) (by rw [u1l]; decide) (zh_keep (by decide) (by decide) (by decide) (cn 4 (by decide) (by decide)) g4)
  have f5 : zr_hand (upd (upd up c (nI (4 + τ))) l (nI (4 + τ))) 5 (j_X2_finishTrick_vt2 (nI t) (nI l) (nI a) vt2 (nI c)) := by
    unfold j_X2_finishTrick_vt2
    rw [Tc]
    have : τ = 0 ∨ τ = 1 := by omega
    rcases this with e | e
    · subst e
      rw [if_pos (by decide)]
      exact zh_keep (by decide) (by decide) (by decide) (by rw [u1l]; decide) (zh_keep (by decide) (by decide) (by decide) (cn 5 (by decide) (by decide)) g5)
    · subst e
      rw [if_neg (by decide), zs_or2 _ hl hc]
      exact zh_put hl (zh_put hc g5)
  have f6 : ∀ d, d < 42 → ∃ v, v < 6 ∧ (upd (upd up c (nI (4 + τ))) l (nI (4 + τ))) d = nI v ∧ ¬ v = 3 := by
    intro d hd
    by_cases e : d = l
    · subst e; exact ⟨4 + τ, by omega, pk_us, by omega⟩
    · rw [pk_un e]
      by_cases e2 : d = c
      · subst e2; exact ⟨4 + τ, by omega, pk_us, by omega⟩
      · rw [pk_un e2]
        obtain ⟨v, hv, u⟩ := hpl d hd
        exact ⟨v, hv, u, fun z => e ((h3 d hd).mp (by rw [u, z]))⟩
  have m1 : ∀ v, v < 2 → zl_nn (upd (upd up c (nI (4 + τ))) l (nI (4 + τ))) v = zl_nn (upd up c (nI (4 + τ))) v := fun v hv => zn_keep (y := 3) (by omega) (by omega) (by decide) hl u1l (by omega) (by omega)
  have mA : zl_nn (upd up c (nI (4 + τ))) a + 1 = zl_nn up a := zn_out (by omega) (by omega) hc huc (by omega)
  have mB : zl_nn (upd up c (nI (4 + τ))) b = zl_nn up b := zn_keep (y := a) (by omega) (by omega) (by omega) hc huc (by omega) (by omega)
  have f7 : zl_nn (upd (upd up c (nI (4 + τ))) l (nI (4 + τ))) 0 = zl_nn (upd (upd up c (nI (4 + τ))) l (nI (4 + τ))) 1 ∧ zl_nn (upd (upd up c (nI (4 + τ))) l (nI (4 + τ))) 0 + 1 = zl_nn up a := by
    rw [m1 0 (by decide), m1 1 (by decide)]
    rcases hab2 with ⟨e1, e2⟩ | ⟨e1, e2⟩
    · subst e1; subst e2; omega
    · subst e1; subst e2; omega
  have f8 : ∀ j, 12 + 2 * E ≤ j → j < 42 → (upd (upd up c (nI (4 + τ))) l (nI (4 + τ))) (g (zr_s j)) = nI 2 := by
    intro j h1 h2
    have u := hp j h1 h2
    have x1 : ¬ g (zr_s j) = l := fun e => by rw [e, ul] at u; exact absurd u (by decide)
    have x2 : ¬ g (zr_s j) = c := fun e => by
      rw [e, huc] at u
      have := (zn_nI (v := 2) (w := a) (by decide) (by omega)).mp u
      omega
    rw [pk_un x1, pk_un x2]
    exact u
  obtain ⟨U, H1, H2, E', ⟨eU, eD, hE'⟩, cA, cB, F1, F2, F3, F4, F5, F6, F7⟩ := zp_draw hτ hE hr f8 f1 f2 f7.1 (fun h => by have := hn15 h; omega) (by omega)
  have eUp : j_X3_ends_uplace up ur (nI (2 * E)) 1 (nI a) (nI l) (nI t) (nI c) = U := by
    unfold j_X3_ends_uplace
    have e4 : (4 : Int32) + nI τ = nI (4 + τ) := nI_add 4 τ
    rw [Tm, e4, nI_clamp (show c < 2 ^ 31 by omega), nI_clamp (show l < 2 ^ 31 by omega), zm_fl hτ]
    exact eU
  have eDr : j_X3_ends_udrawn (nI (2 * E)) 1 = nI (2 * E') := eD
  have eTu : j_X3_ends_uturn (nI a) (nI l) (nI t) (nI c) = nI τ := Tm
  have cH : j_X2_finishTrick_vh1 vrow (nI (12 + 2 * E)) (nI t) (nI l) (nI a) k1 (nI c) = H1 ∧ j_X2_finishTrick_vh2 vrow (nI (12 + 2 * E)) (nI t) (nI l) (nI a) k2 (nI c) = H2 ∧ j_X2_finishTrick_vdrawn (nI (12 + 2 * E)) (nI t) (nI l) (nI a) (nI c) = nI (12 + 2 * E') := by
    unfold j_X2_finishTrick_vh1 j_X2_finishTrick_vh2 j_X2_finishTrick_vdrawn
    rw [Tc]
    have : τ = 0 ∨ τ = 1 := by omega
    rcases this with e | e
    · obtain ⟨y1, y2, y3⟩ := cA e
      subst e
      rw [if_pos (by decide), if_neg (by decide), if_pos (by decide), if_neg (by decide), if_pos (by decide), if_neg (by decide)]
      exact ⟨y1, y2, y3⟩
    · obtain ⟨y1, y2, y3⟩ := cB e
      subst e
      rw [if_neg (by decide), if_pos (by decide), if_neg (by decide), if_pos (by decide), if_neg (by decide), if_pos (by decide)]
      exact ⟨y1, y2, y3⟩
  obtain ⟨cH1, cH2, cD⟩ := cH
  obtain ⟨ov1, ov2⟩ := zp_over F1 F2 F5
  have P := zp_pts (us := us) (ug := ug) hτ2 Tm Tc p1 p2 q1 q2
  have K := zp_tks (ut := ut) hτ2 Tm Tc n1 n2
  have G := zp_glv ug
  rw [zp_w1 T01, zp_w2 T01, zp_m T01, zp_uw, zp_uo, cH1, cH2, cD, eUp, eDr, eTu, Tc, zr_c0, zr_c1]
  have noU3 : ∀ d, d < 42 → ¬ U d = nI 3 := by
    intro d hd e
    rcases F3 d hd with u | ⟨_, u | u⟩
    · obtain ⟨v, hv, x, n⟩ := f6 d hd
      rw [u, x] at e
      exact n ((zn_nI (v := 3) (w := v) (by decide) hv).mp e)
    · rw [u] at e; exact absurd e (by decide)
    · rw [u] at e; exact absurd e (by decide)
  have far : ∀ v, v = 4 ∨ v = 5 → ∀ h : Int64, zr_hand (upd (upd up c (nI (4 + τ))) l (nI (4 + τ))) v h → zr_hand U v h := by
    intro v hv h hh d
    rw [hh]
    by_cases hd : d < 42
    · rcases F3 d hd with u | ⟨u0, u⟩
      · simp [zl_p, u]
      · have z1 : ¬ (upd (upd up c (nI (4 + τ))) l (nI (4 + τ))) d = nI v := by
          rw [u0]
          intro z
          have := (zn_nI (v := v) (w := 2) (by omega) (by decide)).mp z
          omega
        have z2 : ¬ U d = nI v := by
          intro z
          rcases u with u | u
          · rw [u] at z
            have := (zn_nI (v := v) (w := 0) (by omega) (by decide)).mp z
            omega
          · rw [u] at z
            have := (zn_nI (v := v) (w := 1) (by omega) (by decide)).mp z
            omega
        simp [zl_p, z1, z2]
    · simp [hd]
  have plU : ∀ d, d < 42 → ∃ v, v < 6 ∧ U d = nI v := by
    intro d hd
    rcases F3 d hd with u | ⟨_, u | u⟩
    · obtain ⟨v, hv, x, _⟩ := f6 d hd
      exact ⟨v, hv, by rw [u]; exact x⟩
    · exact ⟨0, by decide, u⟩
    · exact ⟨1, by decide, u⟩
  have nU : ∀ v, v < 2 → zl_nn U v = zl_nn U 0 := by
    intro v hv
    have : v = 0 ∨ v = 1 := by omega
    rcases this with e | e
    · rw [e]
    · rw [e]; exact F5.symm
  have hD : ∀ on : Int32, (on = 1 → ¬ zl_nn U 0 = 0) → zr_D vrow ur U (nI (12 + 2 * E')) (nI t) (-1) H1 (j_X2_finishTrick_vt1 (nI t) (nI l) (nI a) vt1 (nI c)) H2 (j_X2_finishTrick_vt2 (nI t) (nI l) (nI a) vt2 (nI c)) (nI (2 * E')) on (nI τ) := by
    intro on hon
    refine ⟨t, τ, σ, E', g, inv, ⟨ht, rfl⟩, ⟨hτ, rfl⟩, ⟨hE', rfl, rfl⟩, ⟨F1, F2, far 4 (Or.inl rfl) _ f4, far 5 (Or.inr rfl) _ f5⟩, plU, Or.inl ⟨rfl, noU3⟩, hr, F4, ⟨F6, by rw [← F5]; exact F6⟩, fun e => ?_⟩
    have := hon e
    rw [nU τ hτ2, nU σ (by omega)]
    exact ⟨Or.inl ⟨rfl, rfl⟩, by omega, F7⟩
  have ur01 : nI τ = 0 ∨ nI τ = 1 := by rw [← Tc]; exact T01
  by_cases z : zl_nn U 0 = 0
  · rw [if_pos (ov1.mpr z), if_pos (ov1.mpr z), if_pos (ov1.mpr z), if_pos (ov2.mpr z), if_pos (ov2.mpr z)]
    refine ⟨⟨?_, ?_, P.1, P.2, K.1, K.2, by rw [q1]; exact G.1.symm, by rw [q2]; exact G.2.symm⟩, ⟨rfl, rfl⟩, hh, ur01, Or.inl ⟨rfl, rfl, rfl⟩, hur, Or.inr ⟨rfl, hD 0 (fun e => absurd e (by decide))⟩⟩
    · rw [pk_un (by decide), pk_us, ← P.1, ← P.2, ← w1]
      unfold j_X2_endGame_vw1
      by_cases y : j_X2_finishTrick_vp1 (nI t) (nI l) (nI a) vp1 vg1 (nI c) ≤ j_X2_finishTrick_vp2 (nI t) (nI l) (nI a) vp2 vg2 (nI c)
      · rw [if_pos y, if_pos y, Int32.add_zero]
      · rw [if_neg y, if_neg y]
    · rw [pk_us, pk_un (by decide), ← P.1, ← P.2, ← w2]
      unfold j_X2_endGame_vw2
      by_cases y : j_X2_finishTrick_vp1 (nI t) (nI l) (nI a) vp1 vg1 (nI c) ≤ j_X2_finishTrick_vp2 (nI t) (nI l) (nI a) vp2 vg2 (nI c)
      · rw [if_pos y]
        by_cases x : j_X2_finishTrick_vp2 (nI t) (nI l) (nI a) vp2 vg2 (nI c) ≤ j_X2_finishTrick_vp1 (nI t) (nI l) (nI a) vp1 vg1 (nI c)
        · rw [if_pos x, if_pos x, Int32.add_zero]
        · rw [if_neg x, if_neg x]
      · rw [if_neg y, if_pos (zi_tot y), Int32.add_zero]
  · rw [if_neg (fun e => z (ov1.mp e)), if_neg (fun e => z (ov1.mp e)), if_neg (fun e => z (ov1.mp e)), if_neg (fun e => z (ov2.mp e)), if_neg (fun e => z (ov2.mp e))]
    exact ⟨⟨w1, w2, P.1, P.2, K.1, K.2, by rw [q1]; exact G.1.symm, by rw [q2]; exact G.2.symm⟩, ⟨rfl, rfl⟩, hh, ur01, Or.inr ⟨rfl, rfl⟩, hur, Or.inr ⟨rfl, hD 1 (fun _ => z)⟩⟩
end ZP
section ZP
variable {vrow : Nat → Int32} {vdrawn vtr vled vmov vw1 vw2 : Int32} {vh1 vt1 : Int64} {vp1 vk1 vg1 : Int32} {vh2 vt2 : Int64} {vp2 vk2 vg2 : Int32} {up ur us ut ug uw uh : Nat → Int32} {udrawn udealt uon uturn uled utr : Int32}
theorem zp_lead {t a b c E : Nat} {g inv : Nat → Nat} {k1 k2 : Int64} (ht : t < 4) (hab : a + b = 1) (hE : E ≤ 15) (hc : c < 42) (hr : zr_row vrow ur g inv) (hur : ∀ j, j < 42 → vp_in (ur j) 42) (hp : ∀ j, 12 + 2 * E ≤ j → j < 42 → up (g (zr_s j)) = nI 2) (hpl : ∀ c, c < 42 → ∃ v, v < 6 ∧ up c = nI v) (h3 : ∀ c, c < 42 → ¬ up c = nI 3) (huc : up c = nI a)
    (hk1 : zr_hand (upd up c (nI 3)) 0 k1) (hk2 : zr_hand (upd up c (nI 3)) 1 k2) (g4 : zr_hand up 4 vt1) (g5 : zr_hand up 5 vt2) (hn : zl_nn up a = zl_nn up b) (hn1 : 1 ≤ zl_nn up a) (hn6 : zl_nn up 0 ≤ 6 ∧ zl_nn up 1 ≤ 6) (hn15 : E < 15 → zl_nn up a = 6)
    (hs : vw1 = uw 0 ∧ vw2 = uw 1 ∧ vp1 = us 0 ∧ vp2 = us 1 ∧ vk1 = ut 0 ∧ vk2 = ut 1 ∧ vg1 = ug 0 ∧ vg2 = ug 1) (hh : ∀ j, j < 12 → vp_in (uh j) 42) :
    zr_R vrow (nI (12 + 2 * E)) (nI t) (nI c) (1 - nI a) vw1 vw2 k1 vt1 vp1 vk1 vg1 k2 vt2 vp2 vk2 vg2 (upd up (nI c).toNatClampNeg 3) ur us ut ug uw uh (nI (2 * E)) 1 1 (1 - nI a) (nI c) (nI t) := by
  rw [nI_clamp (show c < 2 ^ 31 by omega), zm_fl hab, show (3 : Int32) = nI 3 from rfl]
  have hb01 : nI b = 0 ∨ nI b = 1 := by
    have : b = 0 ∨ b = 1 := by omega
    rcases this with e | e
    · subst e; exact Or.inl (by decide)
    · subst e; exact Or.inr (by decide)
  have hab2 : (a = 0 ∧ b = 1) ∨ (a = 1 ∧ b = 0) := by omega
  have mA : zl_nn (upd up c (nI 3)) a + 1 = zl_nn up a := zn_out (by omega) (by decide) hc huc (by omega)
  have mB : zl_nn (upd up c (nI 3)) b = zl_nn up b := zn_keep (y := a) (by omega) (by decide) (by omega) hc huc (by omega) (by omega)
  have cn : ∀ v, 4 ≤ v → v < 6 → ¬ up c = nI v := fun v h1 h2 e => by
    rw [huc] at e
    have := (zn_nI (v := v) (w := a) h2 (by omega)).mp e
    omega
  refine ⟨hs, ⟨rfl, rfl⟩, hh, hb01, Or.inr ⟨rfl, rfl⟩, hur, Or.inr ⟨rfl, t, b, a, E, g, inv, ⟨ht, rfl⟩, ⟨by omega, rfl⟩, ⟨hE, rfl, rfl⟩, ⟨hk1, hk2, zh_keep (by decide) (by decide) (by decide) (cn 4 (by decide) (by decide)) g4, zh_keep (by decide) (by decide) (by decide) (cn 5 (by decide) (by decide)) g5⟩, fun d hd => ?_, Or.inr ⟨c, hc, rfl, fun d hd => ?_⟩, hr, fun j h1 h2 => ?_, ?_, fun _ => ⟨Or.inr ⟨zs_nm1 c hc, by omega⟩, by omega, fun h => by have := hn15 h; omega⟩⟩⟩
  · by_cases e : d = c
    · subst e; exact ⟨3, by decide, pk_us⟩
    · rw [pk_un e]; exact hpl d hd
  · by_cases e : d = c
    · subst e; exact ⟨fun _ => rfl, fun _ => pk_us⟩
    · rw [pk_un e]; exact ⟨fun u => absurd u (h3 d hd), fun u => absurd u e⟩
  · have u := hp j h1 h2
    have x : ¬ g (zr_s j) = c := fun e => by
      rw [e, huc] at u
      have := (zn_nI (v := 2) (w := a) (by decide) (by omega)).mp u
      omega
    rw [pk_un x]; exact u
  · rcases hab2 with ⟨e1, e2⟩ | ⟨e1, e2⟩
    · subst e1; subst e2; omega
    · subst e1; subst e2; omega
theorem zp_leg {a c : Nat} (ha : a < 2) (hc : c < 42) (h1 : zr_hand up 0 vh1) (h2 : zr_hand up 1 vh2) (h : j_X2_reasonAgainst vdrawn vtr vled (nI a) vh1 vh2 (nI c) = 0) : up c = nI a := by
  have m := zr_mh ha h1 h2
  unfold j_X2_reasonAgainst at h
  rw [if_neg (zs_nm1 a (by omega))] at h
  by_cases q : j_X2_has (j_X2_moversHand (nI a) vh1 vh2) (nI c) = 0
  · rw [if_pos q] at h; exact absurd h (by decide)
  · have : zs_in (j_X2_moversHand (nI a) vh1 vh2) c = true := by
      cases e : zs_in (j_X2_moversHand (nI a) vh1 vh2) c with
      | true => rfl
      | false => exact absurd ((zs_has (by omega) _).mpr e) q
    rw [m] at this
    simp [zl_p] at this
    exact this.2
theorem zp_play (h : zr_R vrow vdrawn vtr vled vmov vw1 vw2 vh1 vt1 vp1 vk1 vg1 vh2 vt2 vp2 vk2 vg2 up ur us ut ug uw uh udrawn udealt uon uturn uled utr) {x : Int32} (hx : ¬ j_X2_isCard x = 0) (hw : j_X2_reasonAgainst vdrawn vtr vled vmov vh1 vh2 x = 0) :
    zr_R vrow (j_X2_play_vdrawn vdrawn vtr vled vmov x) vtr (j_X2_play_vled vled x) (j_X2_play_vmov vrow vdrawn vtr vled vmov vh1 vh2 x) (j_X2_play_vw1 vrow vdrawn vtr vled vmov vw1 vh1 vp1 vg1 vh2 vp2 vg2 x) (j_X2_play_vw2 vrow vdrawn vtr vled vmov vw2 vh1 vp1 vg1 vh2 vp2 vg2 x) (j_X2_play_vh1 vrow vdrawn vtr vled vmov vh1 x) (j_X2_play_vt1 vtr vled vmov vt1 x) (j_X2_play_vp1 vtr vled vmov vp1 vg1 x) (j_X2_play_vk1 vtr vled vmov vk1 x) (j_X2_play_vg1 vled vg1) (j_X2_play_vh2 vrow vdrawn vtr vled vmov vh2 x) (j_X2_play_vt2 vtr vled vmov vt2 x) (j_X2_play_vp2 vtr vled vmov vp2 vg2 x) (j_X2_play_vk2 vtr vled vmov vk2 x) (j_X2_play_vg2 vled vg2)
      (j_X3_play_uplace up ur udrawn udealt uon uturn uled utr x) ur (j_X3_play_upts up us ug udrawn udealt uon uturn uled utr x) (j_X3_play_utks up ut udrawn udealt uon uturn uled utr x) (j_X3_play_uglv up ug udrawn udealt uon uturn uled utr x) (j_X3_play_uwin up ur us ug uw udrawn udealt uon uturn uled utr x) uh (j_X3_play_udrawn up udrawn udealt uon uturn uled utr x) udealt (j_X3_play_uon up ur udrawn udealt uon uturn uled utr x) (j_X3_play_uturn up udrawn udealt uon uturn uled utr x) (j_X3_play_uled up udrawn udealt uon uturn uled utr x) utr ∧
    j_X2_play vtr vled vmov x = j_X3_play up udrawn udealt uon uturn uled utr x ∧ j_X3_play_uthr up udrawn udealt uon uturn uled utr x = 0 := by
  obtain ⟨c, hc, e⟩ := zr_card hx
  subst e
  have hwy := (zr_why h hc).trans hw
  have hc3 : ¬ j_X3_isCard (nI c) = 0 := hx
  obtain ⟨hs, ⟨el, et⟩, hh, htu, hm, hur, hd⟩ := h
  subst el; subst et
  rcases hm with ⟨_, m1, _⟩ | ⟨m0, m1⟩
  · unfold j_X2_reasonAgainst at hw
    rw [if_pos m1] at hw
    exact absurd hw (by decide)
  · rcases hd with ⟨_, d0, _⟩ | ⟨d0, t, a, b, E, g, inv, ⟨ht, e1⟩, ⟨hab, e2⟩, ⟨hE, e3, e4⟩, ⟨g1, g2, g4, g5⟩, hpl, lo, hr, hp, hn6, hon⟩
    · rw [m0] at d0
      exact absurd d0 (by decide)
    · subst e1; subst e2; subst e3; subst e4; subst d0; subst m0; subst m1
      have ha : a < 2 := by omega
      have huc := zp_leg ha hc g1 g2 hw
      have ho := hon rfl
      have hab2 : (a = 0 ∧ b = 1) ∨ (a = 1 ∧ b = 0) := by omega
      have c00 : nI 0 = 0 := by decide
      have c10 : ¬ nI 1 = 0 := by decide
      simp only [j_X3_play_uplace, j_X3_play_upts, j_X3_play_utks, j_X3_play_uglv, j_X3_play_uwin, j_X3_play_udrawn, j_X3_play_uon, j_X3_play_uturn, j_X3_play_uled, j_X3_play, j_X3_play_uthr, if_neg hc3, if_pos hwy]
      rcases lo with ⟨hl, h3⟩ | ⟨l, hl, ell, h3⟩
      · subst hl
        have ln : (-1 : Int32) < 0 := by decide
        have lr : (-1 : Int32) = (-1) := rfl
        simp only [j_X2_play_vdrawn, j_X2_play_vled, j_X2_play_vmov, j_X2_play_vw1, j_X2_play_vw2, j_X2_play_vh1, j_X2_play_vt1, j_X2_play_vp1, j_X2_play_vk1, j_X2_play_vg1, j_X2_play_vh2, j_X2_play_vt2, j_X2_play_vp2, j_X2_play_vk2, j_X2_play_vg2, j_X2_play, if_pos ln, if_pos lr, ite_self, ite_true]
        refine ⟨?_, by first | trivial | exact ⟨rfl, trivial⟩ | simp⟩
        obtain ⟨hq, hn1, hn15⟩ := ho
        have hn : zl_nn up a = zl_nn up b := by
          rcases hq with q | q
          · exact q.2
          · exact absurd rfl q.1
        rcases hab2 with ⟨a1, a2⟩ | ⟨a1, a2⟩
        · subst a1; subst a2
          rw [if_pos c00, if_pos c00]
          exact zp_lead ht hab hE hc hr hur hp hpl h3 huc (zh_out (by decide) (by decide) (by decide) hc g1) (zh_keep (by decide) (by decide) (by decide) (by rw [huc]; decide) g2) g4 g5 hn hn1 hn6 hn15 hs hh
        · subst a1; subst a2
          rw [if_neg c10, if_neg c10]
          exact zp_lead ht hab hE hc hr hur hp hpl h3 huc (zh_keep (by decide) (by decide) (by decide) (by rw [huc]; decide) g1) (zh_out (by decide) (by decide) (by decide) hc g2) g4 g5 hn hn1 hn6 hn15 hs hh
      · subst ell
        have ln : ¬ nI l < 0 := nI_pos (by omega)
        have lr : ¬ nI l = (-1) := zs_nm1 l hl
        simp only [j_X2_play_vdrawn, j_X2_play_vled, j_X2_play_vmov, j_X2_play_vw1, j_X2_play_vw2, j_X2_play_vh1, j_X2_play_vt1, j_X2_play_vp1, j_X2_play_vk1, j_X2_play_vg1, j_X2_play_vh2, j_X2_play_vt2, j_X2_play_vp2, j_X2_play_vk2, j_X2_play_vg2, j_X2_play, if_neg ln, if_neg lr]
        obtain ⟨hq, hn1, hn15⟩ := ho
        have hn : zl_nn up a = zl_nn up b + 1 := by
          rcases hq with q | q
          · exact absurd q.1 lr
          · exact q.2
        refine ⟨?_, zr_taker ht hl hc, trivial⟩
        rcases hab2 with ⟨a1, a2⟩ | ⟨a1, a2⟩
        · subst a1; subst a2
          simp only [if_pos c00]
          exact zp_fin ht hab hE hl hc hr hur hp hpl h3 huc (fun w h1 h2 => zh_out (by decide) h1 (by omega) hc g1) (fun w h1 h2 => zh_keep (by decide) h1 (by omega) (by rw [huc]; decide) g2) g4 g5 hn hn6.1 hn15 hs hh
        · subst a1; subst a2
          simp only [if_neg c10]
          exact zp_fin ht hab hE hl hc hr hur hp hpl h3 huc (fun w h1 h2 => zh_keep (by decide) h1 (by omega) (by rw [huc]; decide) g1) (fun w h1 h2 => zh_out (by decide) h1 (by omega) hc g2) g4 g5 hn hn6.2 hn15 hs hh
end ZP
def zd_pm (z z' : Nat → Int32) (g inv : Nat → Nat) : Prop := (∀ k, k < 42 → z k = nI (g k) ∧ z' k = nI (g k) ∧ g k < 42 ∧ inv (g k) = k) ∧ (∀ c, c < 42 → inv c < 42 ∧ g (inv c) = c)
theorem zd_fill : ∀ (n i : Nat) (z : Nat → Int32), i + n ≤ 42 → (∀ k, k < i → z k = nI k) → ∀ k, k < i + n → j_X3_deal_7_urow n i z k = nI k
  | 0, i, z, _, h, k, hk => h k (by omega)
  | n + 1, i, z, hi, h, k, hk => by
    rw [j_X3_deal_7_urow, nI_clamp (show i < 2 ^ 31 by omega)]
    refine zd_fill n (i + 1) _ (by omega) (fun j hj => ?_) k (by omega)
    by_cases e : j = i
    · subst e; rw [pk_us]
    · rw [pk_un e]; exact h j (by omega)
theorem zd_two (vrow : Nat → Int32) (x0 : Int64) : ∀ (n i : Nat) (z : Nat → Int32), j_X2_shuffle_vrow_2 vrow x0 n i z = j_X2_shuffle_vrow_27 vrow x0 41 x0 (j_X3_deal_7_urow n i z)
  | 0, _, _ => rfl
  | n + 1, i, z => by
    rw [j_X2_shuffle_vrow_2, j_X3_deal_7_urow]
    exact zd_two vrow x0 n (i + 1) _
theorem zd_k1 {i : Nat} (hi : i + 1 ≤ 41) : (nI (i + 1)).toInt64 + 1 = (nI (i + 1) + 1).toInt64 := by
  rw [nI_l (by omega), lN_1, nI_1, nI_l (by omega)]
theorem zd_swap {z z' : Nat → Int32} {g inv : Nat → Nat} (h : zd_pm z z' g inv) {K O : Nat} (hK : K < 42) (hO : O < 42) : ∃ g' inv', zd_pm (upd (upd z K (z O)) O (z K)) (upd (upd z' K (z' O)) O (z' K)) g' inv' := by
  obtain ⟨h1, h2⟩ := h
  refine ⟨fun k => if k = O then g K else if k = K then g O else g k, fun c => if c = g K then O else if c = g O then K else inv c, fun k hk => ?_, fun c hc => ?_⟩
  · by_cases a : k = O
    · subst a
      refine ⟨?_, ?_, ?_, ?_⟩
      · dsimp only; rw [pk_us, if_pos rfl]; exact (h1 K hK).1
      · dsimp only; rw [pk_us, if_pos rfl]; exact (h1 K hK).2.1
      · show (if k = k then g K else _) < 42
        rw [if_pos rfl]; exact (h1 K hK).2.2.1
      · show (if (if k = k then g K else _) = g K then k else _) = k
        rw [if_pos rfl, if_pos rfl]
    · by_cases b : k = K
      · subst b
        refine ⟨?_, ?_, ?_, ?_⟩
        · dsimp only; rw [pk_un a, pk_us, if_neg a, if_pos rfl]; exact (h1 O hO).1
        · dsimp only; rw [pk_un a, pk_us, if_neg a, if_pos rfl]; exact (h1 O hO).2.1
        · show (if k = O then g k else if k = k then g O else g k) < 42
          rw [if_neg a, if_pos rfl]; exact (h1 O hO).2.2.1
        · have e : (if k = O then g k else if k = k then g O else g k) = g O := by rw [if_neg a, if_pos rfl]
          show (if (if k = O then g k else if k = k then g O else g k) = g k then O else if (if k = O then g k else if k = k then g O else g k) = g O then k else _) = k
          rw [e]
          have n : ¬ g O = g k := fun q => by
            have u := (h1 O hO).2.2.2
            rw [q, (h1 k hK).2.2.2] at u
            exact a u
          rw [if_neg n, if_pos rfl]
      · refine ⟨?_, ?_, ?_, ?_⟩
        · dsimp only; rw [pk_un a, pk_un b, if_neg a, if_neg b]; exact (h1 k hk).1
        · dsimp only; rw [pk_un a, pk_un b, if_neg a, if_neg b]; exact (h1 k hk).2.1
        · show (if k = O then g K else if k = K then g O else g k) < 42
          rw [if_neg a, if_neg b]; exact (h1 k hk).2.2.1
        · have e : (if k = O then g K else if k = K then g O else g k) = g k := by rw [if_neg a, if_neg b]
          show (if (if k = O then g K else if k = K then g O else g k) = g K then O else if (if k = O then g K else if k = K then g O else g k) = g O then K else inv (if k = O then g K else if k = K then g O else g k)) = k
          rw [e]
          have u := (h1 k hk).2.2.2
          have n1 : ¬ g k = g K := fun q => by
            rw [q, (h1 K hK).2.2.2] at u
            exact b u.symm
          have n2 : ¬ g k = g O := fun q => by
            rw [q, (h1 O hO).2.2.2] at u
            exact a u.symm
          rw [if_neg n1, if_neg n2]; exact u
  · by_cases a : c = g K
    · constructor
      · show (if c = g K then O else _) < 42
        rw [if_pos a]; exact hO
      · show (if (if c = g K then O else _) = O then g K else _) = c
        rw [if_pos a, if_pos rfl]; exact a.symm
    · by_cases b : c = g O
      · have e : (if c = g K then O else if c = g O then K else inv c) = K := by rw [if_neg a, if_pos b]
        constructor
        · show (if c = g K then O else if c = g O then K else inv c) < 42
          rw [e]; exact hK
        · show (if (if c = g K then O else if c = g O then K else inv c) = O then g K else if (if c = g K then O else if c = g O then K else inv c) = K then g O else g (if c = g K then O else if c = g O then K else inv c)) = c
          rw [e]
          by_cases q : K = O
          · rw [if_pos q]
            rw [q] at a
            exact absurd b a
          · rw [if_neg q, if_pos rfl]; exact b.symm
      · have e : (if c = g K then O else if c = g O then K else inv c) = inv c := by rw [if_neg a, if_neg b]
        obtain ⟨u, v⟩ := h2 c hc
        constructor
        · show (if c = g K then O else if c = g O then K else inv c) < 42
          rw [e]; exact u
        · show (if (if c = g K then O else if c = g O then K else inv c) = O then g K else if (if c = g K then O else if c = g O then K else inv c) = K then g O else g (if c = g K then O else if c = g O then K else inv c)) = c
          rw [e]
          have n1 : ¬ inv c = O := fun q => b (by rw [← q]; exact v.symm)
          have n2 : ¬ inv c = K := fun q => a (by rw [← q]; exact v.symm)
          rw [if_neg n1, if_neg n2]; exact v
theorem zd_ex (z : Nat → Int32) {k j : Nat} (hk : k < 42) (hj : j < 42) : j_X2_exchange_vrow z (nI k) (nI j) = upd (upd z k (z j)) j (z k) := by
  have n0 : ∀ q : Nat, q < 42 → ¬ nI q < (0 : Int32) := fun q hq => nI_nlt (a := q) (b := 0) (by omega) (by omega)
  have n1 : ∀ q : Nat, q < 42 → ¬ (42 : Int32) ≤ nI q := by decide +kernel
  unfold j_X2_exchange_vrow
  rw [if_neg (n0 k hk), if_neg (n1 k hk), if_neg (n0 j hj), if_neg (n1 j hj), nI_clamp (show k < 2 ^ 31 by omega), nI_clamp (show j < 2 ^ 31 by omega)]
theorem zd_shuf (vrow : Nat → Int32) (x0 : Int64) : ∀ (i : Nat) (y : Int64) (z z' : Nat → Int32) (g inv : Nat → Nat), i ≤ 41 → zd_pm z z' g inv → ∃ g' inv', zd_pm (j_X2_shuffle_vrow_27 vrow x0 i y z) (j_X3_deal_32_urow i y z') g' inv'
  | 0, y, z, z', g, inv, _, h => ⟨g, inv, h⟩
  | i + 1, y, z, z', g, inv, hi, h => by
    rw [j_X2_shuffle_vrow_27, j_X3_deal_32_urow, zd_k1 hi]
    obtain ⟨j, hj, e⟩ := vp_in_of (jx_other (a := (y * 6364136223846793005) + 1442695040888963407) hi) (by decide)
    rw [e, zd_ex z (show i + 1 < 42 by omega) hj, nI_clamp (show i + 1 < 2 ^ 31 by omega), nI_clamp (show j < 2 ^ 31 by omega)]
    obtain ⟨g', inv', h'⟩ := zd_swap h (show i + 1 < 42 by omega) hj
    exact zd_shuf vrow x0 i _ _ _ g' inv' (by omega) h'
theorem zd_all (vrow ur : Nat → Int32) (x0 : Int64) : ∃ g inv, zd_pm (j_X2_shuffle_vrow vrow x0) (j_X3_deal_urow ur x0) g inv := by
  have e : j_X2_shuffle_vrow vrow x0 = j_X2_shuffle_vrow_27 vrow x0 41 x0 (j_X3_deal_7_urow 42 0 vrow) := zd_two vrow x0 42 0 vrow
  rw [e]
  unfold j_X3_deal_urow
  refine zd_shuf vrow x0 41 x0 _ _ (fun k => k) (fun c => c) (Nat.le_refl _) ⟨fun k hk => ⟨zd_fill 42 0 vrow (by decide) (fun j hj => absurd hj (Nat.not_lt_zero j)) k (by omega), zd_fill 42 0 ur (by decide) (fun j hj => absurd hj (Nat.not_lt_zero j)) k (by omega), hk, rfl⟩, fun c hc => ⟨hc, rfl⟩⟩
def zd_hf (g : Nat → Nat) (s : Nat) : Nat → Int64
  | 0 => 0
  | m + 1 => zd_hf g s m ||| (j_X2_bit (nI (g (s + m))))
theorem zd_hin {g inv : Nat → Nat} {s : Nat} (hg : ∀ k, k < 42 → g k < 42 ∧ inv (g k) = k) : ∀ (m : Nat), s + m ≤ 42 → (∀ c, zs_in (zd_hf g s m) c = true ↔ ∃ k, k < m ∧ g (s + k) = c) ∧ zs_ct (zd_hf g s m) = m
  | 0, _ => ⟨fun c => by
      show zs_in 0 c = true ↔ _
      rw [zs_0]
      exact ⟨fun h => absurd h (by decide), fun ⟨k, hk, _⟩ => absurd hk (Nat.not_lt_zero k)⟩, by
      show zs_ct 0 = 0
      exact (zs_ct_nil (h := 0) (fun c _ => zs_0 c)).mpr rfl⟩
  | m + 1, hm => by
    obtain ⟨i1, i2⟩ := zd_hin (s := s) hg m (by omega)
    have gm := hg (s + m) (by omega)
    have nin : zs_in (zd_hf g s m) (g (s + m)) = false := by
      cases e : zs_in (zd_hf g s m) (g (s + m)) with
      | false => rfl
      | true =>
        obtain ⟨k, hk, q⟩ := (i1 _).mp e
        have u := (hg (s + k) (by omega)).2
        rw [q, gm.2] at u
        omega
    refine ⟨fun c => ?_, ?_⟩
    · show zs_in (zd_hf g s m ||| (j_X2_bit (nI (g (s + m))))) c = true ↔ _
      rw [zs_add (by have := gm.1; omega), Bool.or_eq_true, i1, decide_eq_true_eq]
      constructor
      · rintro (⟨k, hk, q⟩ | q)
        · exact ⟨k, by omega, q⟩
        · exact ⟨m, by omega, q.symm⟩
      · rintro ⟨k, hk, q⟩
        rcases Nat.lt_or_ge k m with w | w
        · exact Or.inl ⟨k, w, q⟩
        · have : k = m := by omega
          subst this
          exact Or.inr q.symm
    · show zs_ct (zd_hf g s m ||| (j_X2_bit (nI (g (s + m))))) = m + 1
      rw [zs_ct_add gm.1 nin, i2]
abbrev zd_cl (s i : Nat) : Nat := if i - s < 6 then i - s else 6
theorem zd_hfrom {r : Nat → Int32} {g : Nat → Nat} {s : Nat} (hs : s = 0 ∨ s = 6) (hr : ∀ k, k < 12 → r k = nI (g k)) : ∀ (n i : Nat), i + n = 42 → j_X2_handFrom_5 r (nI s) n i (zd_hf g s (zd_cl s i)) = zd_hf g s 6
  | 0, i, hi => by
    show zd_hf g s (zd_cl s i) = zd_hf g s 6
    have : zd_cl s i = 6 := by unfold zd_cl; rw [if_neg (by omega)]
    rw [this]
  | n + 1, i, hi => by
    have e6 : nI s + 6 = nI (s + 6) := nI_add s 6
    rw [j_X2_handFrom_5, e6, nI_clamp (show i < 2 ^ 31 by omega)]
    have ih := zd_hfrom hs hr n (i + 1) (by omega)
    by_cases a : i < s
    · have a' : nI i < nI s := nI_lt a (by omega)
      rw [if_pos a']
      have : zd_cl s (i + 1) = zd_cl s i := by unfold zd_cl; rw [if_pos (by omega), if_pos (by omega)]; omega
      rw [this] at ih
      exact ih
    · have a' : ¬ nI i < nI s := nI_nlt (by omega) (by omega)
      rw [if_neg a']
      by_cases b : s + 6 ≤ i
      · have b' : nI (s + 6) ≤ nI i := nI_le b (by omega)
        rw [if_pos b']
        have : zd_cl s (i + 1) = zd_cl s i := by unfold zd_cl; rw [if_neg (by omega), if_neg (by omega)]
        rw [this] at ih
        exact ih
      · have b' : ¬ nI (s + 6) ≤ nI i := nI_ge (by omega) (by omega)
        rw [if_neg b', hr i (by omega)]
        have e1 : zd_cl s i = i - s := by unfold zd_cl; rw [if_pos (by omega)]
        have e2 : zd_cl s (i + 1) = (i - s) + 1 := by
          unfold zd_cl
          by_cases q : i + 1 - s < 6
          · rw [if_pos q]; omega
          · rw [if_neg q]; omega
        rw [e2] at ih
        rw [e1]
        have e3 : zd_hf g s ((i - s) + 1) = zd_hf g s (i - s) ||| (j_X2_bit (nI (g i))) := by
          show zd_hf g s (i - s) ||| (j_X2_bit (nI (g (s + (i - s))))) = _
          rw [show s + (i - s) = i by omega]
        rw [e3] at ih
        exact ih
abbrev zd_ph (i : Nat) : Nat := if i < 6 then 0 else if i < 12 then 1 else 2
theorem zd_phq : ∀ i, i < 42 → ((if 6 ≤ nI i then ((if 12 ≤ nI i then 2 else 1) : Int32) else 0) : Int32) = nI (zd_ph i) := by decide +kernel
theorem zd_place {r : Nat → Int32} {g inv : Nat → Nat} (hr : ∀ k, k < 42 → r k = nI (g k) ∧ g k < 42 ∧ inv (g k) = k) : ∀ (n i : Nat) (z : Nat → Int32), i + n ≤ 42 → (∀ k, k < i → z (g k) = nI (zd_ph k)) → ∀ k, k < i + n → j_X3_deal_102_uplace r n i z (g k) = nI (zd_ph k)
  | 0, i, z, _, h, k, hk => h k (by omega)
  | n + 1, i, z, hi, h, k, hk => by
    have ri := hr i (by omega)
    rw [j_X3_deal_102_uplace, nI_clamp (show i < 2 ^ 31 by omega), ri.1, nI_clamp (show g i < 2 ^ 31 by have := ri.2.1; omega), zd_phq i (by omega)]
    refine zd_place hr n (i + 1) _ (by omega) (fun j hj => ?_) k (by omega)
    by_cases e : j = i
    · subst e; rw [pk_us]
    · have ne : ¬ g j = g i := fun q => by
        have u := (hr j (by omega)).2.2
        rw [q, ri.2.2] at u
        exact e u.symm
      rw [pk_un ne]; exact h j (by omega)
theorem zd_last (r : Nat → Int32) : (∀ j, j < 12 → j_X2_putTurnedUpLast_vrow r j = r j) ∧ (∀ j, 12 ≤ j → j < 42 → j_X2_putTurnedUpLast_vrow r j = r (zr_s j)) := by
  have e13 : (13 : Int32).toNatClampNeg = 13 := by decide
  have e12 : (12 : Int32).toNatClampNeg = 12 := by decide
  have e29 : (29 : Int32).toNatClampNeg = 29 := by decide
  have e41 : (41 : Int32).toNatClampNeg = 41 := by decide
  unfold j_X2_putTurnedUpLast_vrow
  rw [e13, e12, e29, e41]
  constructor
  · intro j hj
    rw [pk_un (by omega), pk_cpy_out (Or.inl hj)]
  · intro j h1 h2
    unfold zr_s
    by_cases q : j = 41
    · subst q; rw [pk_us, if_neg (by decide)]
    · rw [pk_un q, pk_cpy_in h1 (by omega), if_pos (by omega)]
      congr 1
      omega
section ZP
variable {vrow : Nat → Int32} {vdrawn vtr vled vmov vw1 vw2 : Int32} {vh1 vt1 : Int64} {vp1 vk1 vg1 : Int32} {vh2 vt2 : Int64} {vp2 vk2 vg2 : Int32} {up ur us ut ug uw uh : Nat → Int32} {udrawn udealt uon uturn uled utr : Int32}
theorem zp_deal (h : zr_R vrow vdrawn vtr vled vmov vw1 vw2 vh1 vt1 vp1 vk1 vg1 vh2 vt2 vp2 vk2 vg2 up ur us ut ug uw uh udrawn udealt uon uturn uled utr) (x0 : Int64) :
    zr_R (j_X2_deal_vrow vrow x0) (j_X2_deal_vdrawn) (j_X2_deal_vtr vrow x0) (j_X2_deal_vled) (j_X2_deal_vmov) vw1 vw2 (j_X2_deal_vh1 vrow x0) (j_X2_deal_vt1) (j_X2_deal_vp1) (j_X2_deal_vk1) (j_X2_deal_vg1) (j_X2_deal_vh2 vrow x0) (j_X2_deal_vt2) (j_X2_deal_vp2) (j_X2_deal_vk2) (j_X2_deal_vg2)
      (j_X3_deal_uplace up ur x0) (j_X3_deal_urow ur x0) (j_X3_deal_upts us) (j_X3_deal_utks ut) (j_X3_deal_uglv ug) uw uh j_X3_deal_udrawn j_X3_deal_udealt j_X3_deal_uon j_X3_deal_uturn j_X3_deal_uled (j_X3_deal_utr ur x0) ∧
    j_X2_deal vrow x0 = j_X3_deal ur x0 := by
  obtain ⟨⟨w1, w2, _⟩, _, hh, _⟩ := h
  obtain ⟨g, inv, hA, hB⟩ := zd_all vrow ur x0
  have hg : ∀ k, k < 42 → g k < 42 ∧ inv (g k) = k := fun k hk => (hA k hk).2.2
  have hrU : ∀ k, k < 42 → j_X3_deal_urow ur x0 k = nI (g k) ∧ g k < 42 ∧ inv (g k) = k := fun k hk => ⟨(hA k hk).2.1, (hA k hk).2.2.1, (hA k hk).2.2.2⟩
  obtain ⟨l1, l2⟩ := zd_last (j_X2_shuffle_vrow vrow x0)
  have e12 : (12 : Int32).toNatClampNeg = 12 := by decide
  have g12 := hg 12 (by decide)
  -- trumps
  obtain ⟨t, ht, tv, tu⟩ : ∃ t, t < 4 ∧ j_X2_deal_vtr vrow x0 = nI t ∧ j_X3_deal_utr ur x0 = nI t := by
    have eU : j_X3_deal_utr ur x0 = (if j_X3_isMildew (j_X3_deal_urow ur x0 12) = 0 then j_X3_provenance (j_X3_deal_urow ur x0 12) else 0) := rfl
    unfold j_X2_deal_vtr
    rw [eU, e12, (hA 12 (by decide)).1, (hA 12 (by decide)).2.1]
    by_cases q : g 12 < 40
    · refine ⟨g 12 / 10, by omega, ?_, ?_⟩
      · rw [if_pos ((zs_mil _ g12.1).mpr q), zs_div _ g12.1]
      · rw [if_pos ((zm_mil3 _ g12.1).mpr q), zm_prov _ g12.1]
    · refine ⟨0, by decide, ?_, ?_⟩
      · rw [if_neg (fun e => q ((zs_mil _ g12.1).mp e))]; rfl
      · rw [if_neg (fun e => q ((zm_mil3 _ g12.1).mp e))]; rfl
  have pl := zd_place (r := j_X3_deal_urow ur x0) hrU 42 0 up (by decide) (fun k hk => absurd hk (Nat.not_lt_zero k))
  have plc : ∀ k, k < 42 → j_X3_deal_uplace up ur x0 (g k) = nI (zd_ph k) := fun k hk => pl k (by omega)
  have phlt : ∀ k, zd_ph k < 3 := fun k => by unfold zd_ph; split <;> (try split) <;> omega
  have plI : ∀ c, c < 42 → j_X3_deal_uplace up ur x0 c = nI (zd_ph (inv c)) := fun c hc => by
    have b := hB c hc
    have := plc (inv c) b.1
    rw [b.2] at this
    exact this
  -- hands
  have hand : ∀ s a, (s = 0 ∧ a = 0) ∨ (s = 6 ∧ a = 1) → j_X2_handFrom (j_X2_putTurnedUpLast_vrow (j_X2_shuffle_vrow vrow x0)) (nI s) = zd_hf g s 6 ∧ zr_hand (j_X3_deal_uplace up ur x0) a (zd_hf g s 6) ∧ zs_ct (zd_hf g s 6) = 6 := by
    intro s a hsa
    have hs : s = 0 ∨ s = 6 := by omega
    obtain ⟨i1, i2⟩ := zd_hin (s := s) hg 6 (by omega)
    refine ⟨?_, fun c => ?_, i2⟩
    · have := zd_hfrom (r := j_X2_putTurnedUpLast_vrow (j_X2_shuffle_vrow vrow x0)) (g := g) hs (fun k hk => by rw [l1 k hk]; exact (hA k (by omega)).1) 42 0 (by decide)
      have z : zd_cl s 0 = 0 := by unfold zd_cl; rw [if_pos (by omega)]; omega
      rw [z] at this
      exact this
    · rw [Bool.eq_iff_iff, i1, Bool.and_eq_true, decide_eq_true_eq]
      constructor
      · rintro ⟨k, hk, q⟩
        have gk := hg (s + k) (by omega)
        refine ⟨by rw [← q]; exact gk.1, ?_⟩
        have u := plc (s + k) (by omega)
        rw [q] at u
        have : zd_ph (s + k) = a := by
          unfold zd_ph
          rcases hsa with ⟨x1, x2⟩ | ⟨x1, x2⟩
          · rw [if_pos (by omega)]; exact x2.symm
          · rw [if_neg (by omega), if_pos (by omega)]; exact x2.symm
        simp [zl_p, u, this]
      · rintro ⟨hc, p⟩
        have b := hB c hc
        have u : j_X3_deal_uplace up ur x0 c = nI a := by simpa [zl_p] using p
        rw [plI c hc] at u
        have e := (zn_nI (v := a) (w := zd_ph (inv c)) (by omega) (by have := phlt (inv c); omega)).mp u
        have inr : s ≤ inv c ∧ inv c < s + 6 := by
          unfold zd_ph at e
          split at e
          · omega
          · split at e <;> omega
        exact ⟨inv c - s, by omega, by rw [show s + (inv c - s) = inv c by omega]; exact b.2⟩
  obtain ⟨a1, a2, a3⟩ := hand 0 0 (Or.inl ⟨rfl, rfl⟩)
  obtain ⟨b1, b2, b3⟩ := hand 6 1 (Or.inr ⟨rfl, rfl⟩)
  have vh1e : j_X2_deal_vh1 vrow x0 = zd_hf g 0 6 := by
    unfold j_X2_deal_vh1 j_X0_begin_vh
    rw [show (0 : Int32) = nI 0 from rfl]
    exact a1
  have vh2e : j_X2_deal_vh2 vrow x0 = zd_hf g 6 6 := by
    unfold j_X2_deal_vh2 j_X0_begin_vh
    rw [show (6 : Int32) = nI 6 from rfl]
    exact b1
  have n0 : zl_nn (j_X3_deal_uplace up ur x0) 0 = 6 := by rw [← zl_hct _ a2]; exact a3
  have n1 : zl_nn (j_X3_deal_uplace up ur x0) 1 = 6 := by rw [← zl_hct _ b2]; exact b3
  have nil : ∀ v, 3 ≤ v → v < 6 → zr_hand (j_X3_deal_uplace up ur x0) v 0 := by
    intro v h1 h2 c
    rw [zs_0]
    by_cases hc : c < 42
    · have : ¬ j_X3_deal_uplace up ur x0 c = nI v := by
        rw [plI c hc]
        intro e
        have := (zn_nI (v := v) (w := zd_ph (inv c)) h2 (by have := phlt (inv c); omega)).mp e
        have := phlt (inv c)
        omega
      simp [zl_p, this]
    · simp [hc]
  constructor
  · rw [tv, tu, vh1e, vh2e]
    refine ⟨⟨w1, w2, ?_, ?_, ?_, ?_, ?_, ?_⟩, ⟨rfl, rfl⟩, hh, Or.inl rfl, Or.inr ⟨rfl, rfl⟩, fun j hj => by rw [(hrU j hj).1]; exact vp_in_nI (hrU j hj).2.1 (by decide), Or.inr ⟨rfl, t, 0, 1, 0, g, inv, ⟨ht, rfl⟩, ⟨rfl, rfl⟩, ⟨by decide, rfl, rfl⟩, ⟨a2, b2, nil 4 (by decide) (by decide), nil 5 (by decide) (by decide)⟩, fun c hc => ⟨zd_ph (inv c), by have := phlt (inv c); omega, plI c hc⟩, Or.inl ⟨rfl, fun c hc e => ?_⟩, ⟨hrU, fun j h1 h2 => ?_⟩, fun j h1 h2 => ?_, ⟨by omega, by omega⟩, fun _ => ⟨Or.inl ⟨rfl, by omega⟩, by omega, fun _ => n0⟩⟩⟩
    · unfold j_X3_deal_upts; rw [zr_c0, zr_c1, pk_un (by decide), pk_us]; rfl
    · unfold j_X3_deal_upts; rw [zr_c0, zr_c1, pk_us]; rfl
    · unfold j_X3_deal_utks; rw [zr_c0, zr_c1, pk_un (by decide), pk_us]; rfl
    · unfold j_X3_deal_utks; rw [zr_c0, zr_c1, pk_us]; rfl
    · unfold j_X3_deal_uglv; rw [zr_c0, zr_c1, pk_un (by decide), pk_us]; rfl
    · unfold j_X3_deal_uglv; rw [zr_c0, zr_c1, pk_us]; rfl
    · rw [plI c hc] at e
      have := (zn_nI (v := 3) (w := zd_ph (inv c)) (by decide) (by have := phlt (inv c); omega)).mp e
      have := phlt (inv c)
      omega
    · show j_X2_putTurnedUpLast_vrow (j_X2_shuffle_vrow vrow x0) j = _
      rw [l2 j h1 h2, (hA _ (zr_s42 h2)).1, (hA _ (zr_s42 h2)).2.1]
    · rw [plc _ (zr_s42 h2)]
      have : zd_ph (zr_s j) = 2 := by
        by_cases q : j < 41
        · rw [show zr_s j = j + 1 from if_pos q]
          unfold zd_ph
          rw [if_neg (by omega), if_neg (by omega)]
        · rw [show zr_s j = 12 from if_neg q]; rfl
      rw [this]
  · have x1 : j_X2_deal vrow x0 = j_X2_deal_vtr vrow x0 := rfl
    have x2 : j_X3_deal ur x0 = j_X3_deal_utr ur x0 := rfl
    rw [x1, x2, tv, tu]
end ZP
end
section
/-! P24: WHAT ITS LAW SAYS OF A GAME, over the places of the cards -/
theorem pq_part {up : Nat → Int32} : ∀ {n : Nat}, (∀ c, c < n → ∃ v, v < 6 ∧ up c = nI v) → fb_ct (zl_p up 0) n + fb_ct (zl_p up 1) n + fb_ct (zl_p up 2) n + fb_ct (zl_p up 3) n + fb_ct (zl_p up 4) n + fb_ct (zl_p up 5) n = n
  | 0, _ => rfl
  | n + 1, h => by
    have ih := pq_part (n := n) (fun c hc => h c (by omega))
    obtain ⟨v, hv, u⟩ := h n (by omega)
    have k : ∀ w, w < 6 → zl_p up w n = decide (v = w) := fun w hw => by
      show decide (up n = nI w) = _
      rw [u]
      exact decide_eq_decide.mpr (zn_nI hw hv)
    simp only [fb_ct_succ, k 0 (by decide), k 1 (by decide), k 2 (by decide), k 3 (by decide), k 4 (by decide), k 5 (by decide)]
    have hv6 : v = 0 ∨ v = 1 ∨ v = 2 ∨ v = 3 ∨ v = 4 ∨ v = 5 := by omega
    rcases hv6 with e | e | e | e | e | e
    · subst e; simp; omega
    · subst e; simp; omega
    · subst e; simp; omega
    · subst e; simp; omega
    · subst e; simp; omega
    · subst e; simp; omega
abbrev pq_T (x : Int32) : Prop := x = nI 4 ∨ x = nI 5
def pq_val (c : Nat) : Int32 := (if nI c < 40 then 10 - (nI c - nI c / 10 * 10) else (-5))
def pq_sum (up : Nat → Int32) : Nat → Int32
  | 0 => 0
  | n + 1 => pq_sum up n + (if pq_T (up n) then pq_val n else 0)
def pq_tot : Nat → Int32
  | 0 => 0
  | n + 1 => pq_tot n + pq_val n
theorem pq_210 : pq_tot 42 = 210 := by decide +kernel
theorem pq_sum_cong {up u2 : Nat → Int32} : ∀ {n : Nat}, (∀ k, k < n → (pq_T (up k) ↔ pq_T (u2 k))) → pq_sum up n = pq_sum u2 n
  | 0, _ => rfl
  | n + 1, h => by
    rw [pq_sum, pq_sum, pq_sum_cong (n := n) (fun k hk => h k (by omega))]
    by_cases q : pq_T (up n)
    · rw [if_pos q, if_pos ((h n (by omega)).mp q)]
    · rw [if_neg q, if_neg (fun e => q ((h n (by omega)).mpr e))]
theorem pq_sum_put {up u2 : Nat → Int32} {c : Nat} (h : ∀ k, ¬ k = c → (pq_T (up k) ↔ pq_T (u2 k))) (hn : ¬ pq_T (up c)) (hy : pq_T (u2 c)) : ∀ {n : Nat}, c < n → pq_sum u2 n = pq_sum up n + pq_val c
  | 0, hc => absurd hc (Nat.not_lt_zero _)
  | n + 1, hc => by
    rw [pq_sum, pq_sum]
    by_cases e : n = c
    · subst e
      rw [if_pos hy, if_neg hn, Int32.add_zero, pq_sum_cong (fun k hk => (h k (by omega)).symm)]
    · rw [pq_sum_put h hn hy (n := n) (by omega)]
      have t : (if pq_T (u2 n) then pq_val n else 0) = (if pq_T (up n) then pq_val n else 0) := by
        by_cases q : pq_T (up n)
        · rw [if_pos q, if_pos ((h n e).mp q)]
        · rw [if_neg q, if_neg (fun z => q ((h n e).mpr z))]
      rw [t, Int32.add_assoc, Int32.add_comm (pq_val c), ← Int32.add_assoc]
theorem pq_all {up : Nat → Int32} : ∀ {n : Nat}, (∀ k, k < n → pq_T (up k)) → pq_sum up n = pq_tot n
  | 0, _ => rfl
  | n + 1, h => by
    rw [pq_sum, pq_tot, pq_all (n := n) (fun k hk => h k (by omega)), if_pos (h n (by omega))]
theorem pq_Tn {v : Nat} (hv : v < 6) : pq_T (nI v) ↔ 4 ≤ v := by
  have : ∀ v, v < 6 → (pq_T (nI v) ↔ 4 ≤ v) := by decide +kernel
  exact this v hv
/-- what holds of a game besides the relation: the pile, the tricks, the points with what gloves spared, the games won -/
def pq_J (up us ut uw : Nat → Int32) (udrawn uon sp f s : Int32) : Prop :=
  ∃ E k0 k1 : Nat, (E ≤ 15 ∧ udrawn = nI (2 * E)) ∧ (ut 0 = nI k0 ∧ ut 1 = nI k1 ∧ zl_nn up 4 + zl_nn up 5 = 2 * (k0 + k1)) ∧ zl_nn up 2 + 2 * E = 30 ∧ us 0 + us 1 = pq_sum up 42 + 5 * sp ∧ (uon = 0 → zl_nn up 0 = 0 ∧ zl_nn up 1 = 0 ∧ E = 15) ∧
    ((uon = 1 ∧ uw 0 = f ∧ uw 1 = s) ∨ (uon = 0 ∧ uw 0 = f + (if us 0 ≤ us 1 then 0 else 1) ∧ uw 1 = s + (if us 1 ≤ us 0 then 0 else 1)))
theorem pq_upd {up : Nat → Int32} {c k : Nat} {x : Int32} (h : ¬ k = c) : pq_T (up k) ↔ pq_T (upd up c x k) := by rw [pk_un h]
theorem pq_lead {up us ut uw : Nat → Int32} {udrawn sp f s : Int32} {a c : Nat} (ha : a < 2) (hc : c < 42) (u : up c = nI a) (h : pq_J up us ut uw udrawn 1 sp f s) : pq_J (upd up c (nI 3)) us ut uw udrawn 1 sp f s := by
  obtain ⟨E, k0, k1, h1, ⟨h2, h3, h4⟩, h5, h6, h7, h8⟩ := h
  have m : ∀ v, v < 6 → 2 ≤ v → ¬ v = 3 → zl_nn (upd up c (nI 3)) v = zl_nn up v := fun v hv hv2 hv3 => zn_keep (y := a) hv (by decide) (by omega) hc u (fun e => hv3 e.symm) (by omega)
  refine ⟨E, k0, k1, h1, ⟨h2, h3, ?_⟩, ?_, ?_, fun e => absurd e (by decide), h8⟩
  · rw [m 4 (by decide) (by decide) (by decide), m 5 (by decide) (by decide) (by decide)]; exact h4
  · rw [m 2 (by decide) (by decide) (by decide)]; exact h5
  · have q : pq_sum up 42 = pq_sum (upd up c (nI 3)) 42 := pq_sum_cong (fun k _ => by
      by_cases e : k = c
      · subst e
        rw [u, pk_us, pq_Tn (by omega), pq_Tn (by decide)]
        omega
      · exact pq_upd e)
    rw [h6, q]
theorem pq_draw {vrow ur u2 : Nat → Int32} {τ σ E : Nat} {g inv : Nat → Nat} (hE : E ≤ 15) (hr : zr_row vrow ur g inv) (hp : ∀ j, 12 + 2 * E ≤ j → j < 42 → u2 (g (zr_s j)) = nI 2) :
    ∃ (U : Nat → Int32) (E' : Nat), j_X3_draws_uplace (j_X3_draws_uplace u2 ur (nI (2 * E)) 1 (nI τ)) ur (j_X3_draws_udrawn (nI (2 * E)) 1) 1 (nI σ) = U ∧ j_X3_draws_udrawn (j_X3_draws_udrawn (nI (2 * E)) 1) 1 = nI (2 * E') ∧ E' ≤ 15 ∧
      ((E = 15 ∧ E' = 15 ∧ U = u2) ∨ (E < 15 ∧ E' = E + 1 ∧ ∃ x1 x2, x1 < 42 ∧ x2 < 42 ∧ ¬ x2 = x1 ∧ u2 x1 = nI 2 ∧ u2 x2 = nI 2 ∧ U = upd (upd u2 x1 (nI τ)) x2 (nI σ))) := by
  by_cases e15 : E = 15
  · subst e15
    have z1 := zd_up0 (up := u2) (ur := ur) (nI τ)
    have z2 := zd_up0 (up := u2) (ur := ur) (nI σ)
    refine ⟨u2, 15, ?_, ?_, Nat.le_refl _, Or.inl ⟨rfl, rfl, rfl⟩⟩
    · show j_X3_draws_uplace (j_X3_draws_uplace u2 ur (nI 30) 1 (nI τ)) ur (j_X3_draws_udrawn (nI 30) 1) 1 (nI σ) = u2
      rw [z1.1, z1.2, z2.1]
    · show j_X3_draws_udrawn (j_X3_draws_udrawn (nI 30) 1) 1 = nI 30
      rw [z1.2, z1.2]
  · have hE14 : E < 15 := by omega
    have i1 : 12 + 2 * E < 42 := by omega
    have i2 : 12 + 2 * E + 1 < 42 := by omega
    have A1 := fun (u : Nat → Int32) (x : Int32) => zd_up (up := u) (D := 2 * E) (by omega) hr x
    have A2' : ∀ (u : Nat → Int32) (x : Int32), j_X3_draws_uplace u ur (nI (2 * E + 1)) 1 x = upd u (g (zr_s (12 + 2 * E + 1))) x ∧ j_X3_draws_udrawn (nI (2 * E + 1)) 1 = nI (2 * (E + 1)) := fun u x => zd_up (up := u) (D := 2 * E + 1) (by omega) hr x
    refine ⟨_, E + 1, rfl, ?_, by omega, Or.inr ⟨hE14, rfl, g (zr_s (12 + 2 * E)), g (zr_s (12 + 2 * E + 1)), (hr.1 _ (zr_s42 i1)).2.1, (hr.1 _ (zr_s42 i2)).2.1, zr_gne hr (by omega) i2 (by omega) i1 (by omega), hp _ (Nat.le_refl _) i1, hp _ (by omega) i2, ?_⟩⟩
    · rw [(A1 u2 (nI 0)).2, (A2' u2 (nI 0)).2]
    · rw [(A1 u2 (nI τ)).1, (A1 u2 (nI τ)).2, (A2' _ (nI σ)).1]
/-! the points of a trick -/
abbrev pq_m (c : Nat) : Int32 := if nI c ≤ 39 then 0 else 1
theorem pq_worth1 : ∀ c, c < 42 → j_X3_worthTo (nI c) 1 = pq_val c + 5 * pq_m c := by decide +kernel
theorem pq_worth0 : ∀ c, c < 42 → j_X3_worthTo (nI c) 0 = pq_val c := by decide +kernel
theorem pq_5 (x y : Int32) : 5 * (x + y) = 5 * x + 5 * y := Int32.mul_add
/-- what the taker gets: G is whether gloves are on -/
theorem pq_gain {c l : Nat} (hc : c < 42) (hl : l < 42) (G P : Int32) : P + (j_X3_worthTo (nI c) ((if G = 1 then 1 else 0) : Int32) + j_X3_worthTo (nI l) ((if G = 1 then 1 else 0) : Int32)) = ((P + pq_val c) + pq_val l) + (if G = 1 then 5 * (pq_m c + pq_m l) else 0) := by
  by_cases g : G = 1
  · rw [if_pos g, if_pos g, pq_worth1 c hc, pq_worth1 l hl, pq_5]
    generalize pq_val c = x; generalize pq_val l = y; generalize 5 * pq_m c = z; generalize 5 * pq_m l = t
    ac_rfl
  · rw [if_neg g, if_neg g, pq_worth0 c hc, pq_worth0 l hl, Int32.add_zero]
    ac_rfl
theorem pq_take {up : Nat → Int32} {a l c τ : Nat} (ha : a < 2) (hτ : τ < 2) (hc : c < 42) (hl : l < 42) (huc : up c = nI a) (hul : up l = nI 3) :
    zl_nn (upd (upd up c (nI (4 + τ))) l (nI (4 + τ))) 4 + zl_nn (upd (upd up c (nI (4 + τ))) l (nI (4 + τ))) 5 = zl_nn up 4 + zl_nn up 5 + 2 ∧ zl_nn (upd (upd up c (nI (4 + τ))) l (nI (4 + τ))) 2 = zl_nn up 2 ∧
      pq_sum (upd (upd up c (nI (4 + τ))) l (nI (4 + τ))) 42 = (pq_sum up 42 + pq_val c) + pq_val l ∧ (upd (upd up c (nI (4 + τ))) l (nI (4 + τ))) c = nI (4 + τ) ∧ (upd (upd up c (nI (4 + τ))) l (nI (4 + τ))) l = nI (4 + τ) := by
  have hcl : ¬ l = c := by
    intro e
    rw [e, huc] at hul
    have := (zn_nI (v := 3) (w := a) (by decide) (by omega)).mp hul
    omega
  have u1l : (upd up c (nI (4 + τ))) l = nI 3 := by rw [pk_un hcl]; exact hul
  have k2 : zl_nn (upd (upd up c (nI (4 + τ))) l (nI (4 + τ))) 2 = zl_nn (upd up c (nI (4 + τ))) 2 := zn_keep (y := 3) (by decide) (by omega) (by decide) hl u1l (by omega) (by decide)
  have k2' : zl_nn (upd up c (nI (4 + τ))) 2 = zl_nn up 2 := zn_keep (y := a) (by decide) (by omega) (by omega) hc huc (by omega) (by omega)
  have s1 : pq_sum (upd up c (nI (4 + τ))) 42 = pq_sum up 42 + pq_val c := pq_sum_put (fun k hk => pq_upd hk) (by rw [huc, pq_Tn (by omega)]; omega) (by rw [pk_us, pq_Tn (by omega)]; omega) hc
  have s2 : pq_sum (upd (upd up c (nI (4 + τ))) l (nI (4 + τ))) 42 = pq_sum (upd up c (nI (4 + τ))) 42 + pq_val l := pq_sum_put (fun k hk => pq_upd hk) (by rw [u1l, pq_Tn (by decide)]; omega) (by rw [pk_us, pq_Tn (by omega)]; omega) hl
  have t : τ = 0 ∨ τ = 1 := by omega
  refine ⟨?_, k2.trans k2', by rw [s2, s1], ?_, pk_us⟩
  · rcases t with e | e
    · subst e
      have p1 : zl_nn (upd up c (nI 4)) 4 = zl_nn up 4 + 1 := zn_put (w := a) (by decide) (by omega) hc huc (by omega)
      have p2 : zl_nn (upd (upd up c (nI 4)) l (nI 4)) 4 = zl_nn (upd up c (nI 4)) 4 + 1 := zn_put (w := 3) (by decide) (by decide) hl u1l (by decide)
      have p3 : zl_nn (upd up c (nI 4)) 5 = zl_nn up 5 := zn_keep (y := a) (by decide) (by decide) (by omega) hc huc (by decide) (by omega)
      have p4 : zl_nn (upd (upd up c (nI 4)) l (nI 4)) 5 = zl_nn (upd up c (nI 4)) 5 := zn_keep (y := 3) (by decide) (by decide) (by decide) hl u1l (by decide) (by decide)
      show zl_nn (upd (upd up c (nI 4)) l (nI 4)) 4 + zl_nn (upd (upd up c (nI 4)) l (nI 4)) 5 = _
      omega
    · subst e
      have p1 : zl_nn (upd up c (nI 5)) 5 = zl_nn up 5 + 1 := zn_put (w := a) (by decide) (by omega) hc huc (by omega)
      have p2 : zl_nn (upd (upd up c (nI 5)) l (nI 5)) 5 = zl_nn (upd up c (nI 5)) 5 + 1 := zn_put (w := 3) (by decide) (by decide) hl u1l (by decide)
      have p3 : zl_nn (upd up c (nI 5)) 4 = zl_nn up 4 := zn_keep (y := a) (by decide) (by decide) (by omega) hc huc (by decide) (by omega)
      have p4 : zl_nn (upd (upd up c (nI 5)) l (nI 5)) 4 = zl_nn (upd up c (nI 5)) 4 := zn_keep (y := 3) (by decide) (by decide) (by decide) hl u1l (by decide) (by decide)
      show zl_nn (upd (upd up c (nI 5)) l (nI 5)) 4 + zl_nn (upd (upd up c (nI 5)) l (nI 5)) 5 = _
      omega
  · rw [pk_un (fun e => hcl e.symm), pk_us]
theorem pq_dr2 {u2 U : Nat → Int32} {τ σ E E' : Nat} (hτ : τ + σ = 1) (h : (E = 15 ∧ E' = 15 ∧ U = u2) ∨ (E < 15 ∧ E' = E + 1 ∧ ∃ x1 x2, x1 < 42 ∧ x2 < 42 ∧ ¬ x2 = x1 ∧ u2 x1 = nI 2 ∧ u2 x2 = nI 2 ∧ U = upd (upd u2 x1 (nI τ)) x2 (nI σ))) :
    zl_nn U 4 = zl_nn u2 4 ∧ zl_nn U 5 = zl_nn u2 5 ∧ zl_nn U 2 + 2 * E' = zl_nn u2 2 + 2 * E ∧ pq_sum U 42 = pq_sum u2 42 ∧ (∀ d, pq_T (u2 d) → U d = u2 d) := by
  rcases h with ⟨e1, e2, e3⟩ | ⟨e1, e2, x1, x2, h1, h2, ne, v1, v2, e3⟩
  · subst e1; subst e2; subst e3
    exact ⟨rfl, rfl, rfl, rfl, fun _ _ => rfl⟩
  · subst e2; subst e3
    have w2 : (upd u2 x1 (nI τ)) x2 = nI 2 := by rw [pk_un ne]; exact v2
    have k : ∀ v, v < 6 → 4 ≤ v → zl_nn (upd (upd u2 x1 (nI τ)) x2 (nI σ)) v = zl_nn u2 v := fun v hv hv4 => (zn_keep (y := 2) hv (by omega) (by decide) h2 w2 (by omega) (by omega)).trans (zn_keep (y := 2) hv (by omega) (by decide) h1 v1 (by omega) (by omega))
    have o1 : zl_nn (upd u2 x1 (nI τ)) 2 + 1 = zl_nn u2 2 := zn_out (by decide) (by omega) h1 v1 (by omega)
    have o2 : zl_nn (upd (upd u2 x1 (nI τ)) x2 (nI σ)) 2 + 1 = zl_nn (upd u2 x1 (nI τ)) 2 := zn_out (by decide) (by omega) h2 w2 (by omega)
    refine ⟨k 4 (by decide) (by decide), k 5 (by decide) (by decide), by omega, ?_, fun d hd => ?_⟩
    · have a1 : pq_sum (upd (upd u2 x1 (nI τ)) x2 (nI σ)) 42 = pq_sum (upd u2 x1 (nI τ)) 42 := pq_sum_cong (fun k _ => by
        by_cases e : k = x2
        · subst e; rw [pk_us, w2, pq_Tn (by omega), pq_Tn (by decide)]; omega
        · exact (pq_upd e).symm)
      have a2 : pq_sum (upd u2 x1 (nI τ)) 42 = pq_sum u2 42 := pq_sum_cong (fun k _ => by
        by_cases e : k = x1
        · subst e; rw [pk_us, v1, pq_Tn (by omega), pq_Tn (by decide)]; omega
        · exact (pq_upd e).symm)
      exact a1.trans a2
    · have n1 : ¬ d = x1 := fun e => by rw [e, v1, pq_Tn (by decide)] at hd; omega
      have n2 : ¬ d = x2 := fun e => by rw [e, v2, pq_Tn (by decide)] at hd; omega
      rw [pk_un n2, pk_un n1]
section PQ
variable {vrow : Nat → Int32} {up ur us ut ug uw : Nat → Int32} {sp f s : Int32}
theorem pq_fin {t a b l c E : Nat} {g inv : Nat → Nat} {k1 k2 : Int64} (ht : t < 4) (hab : a + b = 1) (hE : E ≤ 15) (hl : l < 42) (hc : c < 42) (hr : zr_row vrow ur g inv) (hp : ∀ j, 12 + 2 * E ≤ j → j < 42 → up (g (zr_s j)) = nI 2) (h3 : ∀ c, c < 42 → (up c = nI 3 ↔ c = l)) (huc : up c = nI a)
    (hk1 : ∀ w, w < 6 → 4 ≤ w → zr_hand (upd up c (nI w)) 0 k1) (hk2 : ∀ w, w < 6 → 4 ≤ w → zr_hand (upd up c (nI w)) 1 k2) (hn : zl_nn up a = zl_nn up b + 1) (hn6 : zl_nn up a ≤ 6) (hn15 : E < 15 → zl_nn up a = 6) (hJ : pq_J up us ut uw (nI (2 * E)) 1 sp f s) :
    ∃ τ σ E' : Nat, τ + σ = 1 ∧ (if j_X3_takes (nI t) (nI c) (nI l) = 0 then 1 - nI a else nI a) = nI τ ∧ (j_X3_ends_uplace up ur (nI (2 * E)) 1 (nI a) (nI l) (nI t) (nI c) c = nI (4 + τ) ∧ j_X3_ends_uplace up ur (nI (2 * E)) 1 (nI a) (nI l) (nI t) (nI c) l = nI (4 + τ)) ∧
      (j_X3_ends_udrawn (nI (2 * E)) 1 = nI (2 * E') ∧ E' ≤ 15 ∧ ((E = 15 ∧ E' = 15) ∨ (E < 15 ∧ E' = E + 1))) ∧
      zl_nn (j_X3_ends_uplace up ur (nI (2 * E)) 1 (nI a) (nI l) (nI t) (nI c)) 0 + zl_nn (j_X3_ends_uplace up ur (nI (2 * E)) 1 (nI a) (nI l) (nI t) (nI c)) 1 + zl_nn (j_X3_ends_uplace up ur (nI (2 * E)) 1 (nI a) (nI l) (nI t) (nI c)) 2 + 1 ≤ zl_nn up 0 + zl_nn up 1 + zl_nn up 2 ∧
      (j_X3_ends_upts us ug (nI a) (nI l) (nI t) (nI c) τ = ((us τ + pq_val c) + pq_val l) + (if ug τ = 1 then 5 * (pq_m c + pq_m l) else 0)) ∧ j_X3_ends_utks ut (nI a) (nI l) (nI t) (nI c) τ = ut τ + 1 ∧
      pq_J (j_X3_ends_uplace up ur (nI (2 * E)) 1 (nI a) (nI l) (nI t) (nI c)) (j_X3_ends_upts us ug (nI a) (nI l) (nI t) (nI c)) (j_X3_ends_utks ut (nI a) (nI l) (nI t) (nI c)) (j_X3_ends_uwin up ur us ug uw (nI (2 * E)) 1 (nI a) (nI l) (nI t) (nI c)) (j_X3_ends_udrawn (nI (2 * E)) 1) (j_X3_ends_uon up ur (nI (2 * E)) 1 1 (nI a) (nI l) (nI t) (nI c)) (sp + (if ug τ = 1 then pq_m c + pq_m l else 0)) f s := by
  obtain ⟨τ, σ, hτ, Tm⟩ : ∃ τ σ, τ + σ = 1 ∧ (if j_X3_takes (nI t) (nI c) (nI l) = 0 then 1 - nI a else nI a) = nI τ := by
    by_cases q : j_X3_takes (nI t) (nI c) (nI l) = 0
    · exact ⟨b, a, by omega, by rw [if_pos q, zm_fl hab]⟩
    · exact ⟨a, b, hab, by rw [if_neg q]⟩
  have hτ2 : τ < 2 := by omega
  have ul : up l = nI 3 := (h3 l hl).mpr rfl
  have hcl : ¬ l = c := by
    intro e
    rw [e, huc] at ul
    have := (zn_nI (v := 3) (w := a) (by decide) (by omega)).mp ul
    omega
  have hab2 : (a = 0 ∧ b = 1) ∨ (a = 1 ∧ b = 0) := by omega
  have u1l : (upd up c (nI (4 + τ))) l = nI 3 := by rw [pk_un hcl]; exact ul
  have f1 : zr_hand (upd (upd up c (nI (4 + τ))) l (nI (4 + τ))) 0 k1 := zh_keep (by decide) (by omega) (by omega) (by rw [u1l]; decide) (hk1 (4 + τ) (by omega) (by omega))
  have f2 : zr_hand (upd (upd up c (nI (4 + τ))) l (nI (4 + τ))) 1 k2 := zh_keep (by decide) (by omega) (by omega) (by rw [u1l]; decide) (hk2 (4 + τ) (by omega) (by omega))
  have m1 : ∀ v, v < 2 → zl_nn (upd (upd up c (nI (4 + τ))) l (nI (4 + τ))) v = zl_nn (upd up c (nI (4 + τ))) v := fun v hv => zn_keep (y := 3) (by omega) (by omega) (by decide) hl u1l (by omega) (by omega)
  have mA : zl_nn (upd up c (nI (4 + τ))) a + 1 = zl_nn up a := zn_out (by omega) (by omega) hc huc (by omega)
  have mB : zl_nn (upd up c (nI (4 + τ))) b = zl_nn up b := zn_keep (y := a) (by omega) (by omega) (by omega) hc huc (by omega) (by omega)
  have f7 : zl_nn (upd (upd up c (nI (4 + τ))) l (nI (4 + τ))) 0 = zl_nn (upd (upd up c (nI (4 + τ))) l (nI (4 + τ))) 1 ∧ zl_nn (upd (upd up c (nI (4 + τ))) l (nI (4 + τ))) 0 + 1 = zl_nn up a := by
    rw [m1 0 (by decide), m1 1 (by decide)]
    rcases hab2 with ⟨e1, e2⟩ | ⟨e1, e2⟩
    · subst e1; subst e2; omega
    · subst e1; subst e2; omega
  have f8 : ∀ j, 12 + 2 * E ≤ j → j < 42 → (upd (upd up c (nI (4 + τ))) l (nI (4 + τ))) (g (zr_s j)) = nI 2 := by
    intro j h1 h2
    have u := hp j h1 h2
    have x1 : ¬ g (zr_s j) = l := fun e => by rw [e, ul] at u; exact absurd u (by decide)
    have x2 : ¬ g (zr_s j) = c := fun e => by
      rw [e, huc] at u
      have := (zn_nI (v := 2) (w := a) (by decide) (by omega)).mp u
      omega
    rw [pk_un x1, pk_un x2]
    exact u
  obtain ⟨t4, t2, tS, tc, tl⟩ := pq_take (by omega) hτ2 hc hl huc ul
  obtain ⟨U0, H1, H2, E0, ⟨eU0, eD0, _⟩, _, _, F1, F2, _, _, F5, F6, F7⟩ := zp_draw hτ hE hr f8 f1 f2 f7.1 (fun h => by have := hn15 h; omega) (by omega)
  obtain ⟨U, E', eU, eD, hE', hU⟩ := pq_draw (τ := τ) (σ := σ) hE hr f8
  have eUU : U0 = U := eU0.symm.trans eU
  subst eUU
  have eEE : E0 = E' := by
    have q := eD0.symm.trans eD
    have := (nI_eq (by omega) (by omega)).mp q
    omega
  subst eEE
  obtain ⟨d4, d5, d2, dS, dT⟩ := pq_dr2 hτ hU
  have eUp : j_X3_ends_uplace up ur (nI (2 * E)) 1 (nI a) (nI l) (nI t) (nI c) = U0 := by
    unfold j_X3_ends_uplace
    have e4 : (4 : Int32) + nI τ = nI (4 + τ) := nI_add 4 τ
    rw [Tm, e4, nI_clamp (show c < 2 ^ 31 by omega), nI_clamp (show l < 2 ^ 31 by omega), zm_fl hτ]
    exact eU
  have eDr : j_X3_ends_udrawn (nI (2 * E)) 1 = nI (2 * E0) := eD
  have t4T : pq_T (nI (4 + τ)) := (pq_Tn (by omega)).mpr (by omega)
  have Uc : U0 c = nI (4 + τ) := (dT c (by rw [tc]; exact t4T)).trans tc
  have Ul : U0 l = nI (4 + τ) := (dT l (by rw [tl]; exact t4T)).trans tl
  have ptsq : j_X3_ends_upts us ug (nI a) (nI l) (nI t) (nI c) = upd us τ (((us τ + pq_val c) + pq_val l) + (if ug τ = 1 then 5 * (pq_m c + pq_m l) else 0)) := by
    unfold j_X3_ends_upts
    rw [Tm, nI_clamp (show τ < 2 ^ 31 by omega), pq_gain hc hl]
  have tksq : j_X3_ends_utks ut (nI a) (nI l) (nI t) (nI c) = upd ut τ (ut τ + 1) := by
    unfold j_X3_ends_utks
    rw [Tm, nI_clamp (show τ < 2 ^ 31 by omega)]
  obtain ⟨E9, q0, q1, ⟨j1, j2⟩, ⟨j3, j4, j5⟩, j6, j7, j8, j9⟩ := hJ
  have hE9 : E9 = E := by
    have := (nI_eq (a := 2 * E) (b := 2 * E9) (by omega) (by omega)).mp j2
    omega
  subst hE9
  obtain ⟨_, ov2⟩ := zp_over F1 F2 F5
  have cse : (E9 = 15 ∧ E0 = 15) ∨ (E9 < 15 ∧ E0 = E9 + 1) := hU.imp (fun q => ⟨q.1, q.2.1⟩) (fun q => ⟨q.1, q.2.1⟩)
  have cnt : zl_nn U0 0 + zl_nn U0 1 + zl_nn U0 2 + 1 ≤ zl_nn up 0 + zl_nn up 1 + zl_nn up 2 := by
    rcases hU with ⟨z1, z2, z3⟩ | ⟨z1, z2, x1, x2, x3, x4, x5, x6, x7, z3⟩
    · subst z3
      rcases hab2 with ⟨e1, e2⟩ | ⟨e1, e2⟩
      · subst e1; subst e2; omega
      · subst e1; subst e2; omega
    · have l6 : zl_nn U0 0 ≤ 6 := F6
      have v6 := hn15 z1
      rcases hab2 with ⟨e1, e2⟩ | ⟨e1, e2⟩
      · subst e1; subst e2; omega
      · subst e1; subst e2; omega
  refine ⟨τ, σ, E0, hτ, Tm, ⟨by rw [eUp]; exact Uc, by rw [eUp]; exact Ul⟩, ⟨eDr, hE', cse⟩, by rw [eUp]; exact cnt, by rw [ptsq, pk_us], by rw [tksq, pk_us], ?_⟩
  rw [zp_uw, zp_uo, ptsq, tksq, eUp, eDr]
  have nJ : ∃ q0' q1', (upd ut τ (ut τ + 1)) 0 = nI q0' ∧ (upd ut τ (ut τ + 1)) 1 = nI q1' ∧ zl_nn U0 4 + zl_nn U0 5 = 2 * (q0' + q1') := by
    have : τ = 0 ∨ τ = 1 := by omega
    rcases this with e | e
    · subst e
      exact ⟨q0 + 1, q1, by rw [pk_us, j3, nI_1], by rw [pk_un (by decide), j4], by omega⟩
    · subst e
      exact ⟨q0, q1 + 1, by rw [pk_un (by decide), j3], by rw [pk_us, j4, nI_1], by omega⟩
  obtain ⟨q0', q1', n1, n2, n3⟩ := nJ
  have pS : (upd us τ (((us τ + pq_val c) + pq_val l) + (if ug τ = 1 then 5 * (pq_m c + pq_m l) else 0))) 0 + (upd us τ (((us τ + pq_val c) + pq_val l) + (if ug τ = 1 then 5 * (pq_m c + pq_m l) else 0))) 1 = pq_sum U0 42 + 5 * (sp + (if ug τ = 1 then pq_m c + pq_m l else 0)) := by
    have e5 : (if ug τ = 1 then 5 * (pq_m c + pq_m l) else 0) = 5 * (if ug τ = 1 then pq_m c + pq_m l else 0) := by
      by_cases q : ug τ = 1
      · rw [if_pos q, if_pos q]
      · rw [if_neg q, if_neg q]; decide
    rw [dS, tS, e5, pq_5 sp]
    generalize 5 * (if ug τ = 1 then pq_m c + pq_m l else 0) = X at *
    have : τ = 0 ∨ τ = 1 := by omega
    rcases this with e | e
    · subst e
      rw [pk_us, pk_un (by decide)]
      have : ((us 0 + pq_val c + pq_val l) + X) + us 1 = ((us 0 + us 1) + pq_val c + pq_val l) + X := by ac_rfl
      rw [this, j7]
      ac_rfl
    · subst e
      rw [pk_us, pk_un (by decide)]
      have : us 0 + ((us 1 + pq_val c + pq_val l) + X) = ((us 0 + us 1) + pq_val c + pq_val l) + X := by ac_rfl
      rw [this, j7]
      ac_rfl
  have jw : uw 0 = f ∧ uw 1 = s := by
    rcases j9 with ⟨_, w⟩ | ⟨w, _⟩
    · exact w
    · exact absurd w (by decide)
  generalize upd us τ (((us τ + pq_val c) + pq_val l) + (if ug τ = 1 then 5 * (pq_m c + pq_m l) else 0)) = vs at *
  by_cases z : zl_nn U0 0 = 0
  · rw [if_pos (ov2.mpr z), if_pos (ov2.mpr z)]
    refine ⟨E0, q0', q1', ⟨hE', rfl⟩, ⟨n1, n2, n3⟩, by omega, pS, fun _ => ⟨z, by rw [← F5]; exact z, ?_⟩, Or.inr ⟨rfl, ?_, ?_⟩⟩
    · rcases Nat.lt_or_ge E0 15 with h | h
      · have := F7 h; omega
      · omega
    · rw [zr_c0, zr_c1, pk_un (by decide), pk_us, jw.1]
    · rw [zr_c0, zr_c1, pk_us, pk_un (by decide), jw.2]
  · rw [if_neg (fun e => z (ov2.mp e)), if_neg (fun e => z (ov2.mp e))]
    exact ⟨E0, q0', q1', ⟨hE', rfl⟩, ⟨n1, n2, n3⟩, by omega, pS, fun e => absurd e (by decide), Or.inl ⟨rfl, jw⟩⟩
end PQ
end
