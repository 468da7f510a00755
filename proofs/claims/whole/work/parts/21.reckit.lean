/-! THE REST OF A GAME: its value, and how the calls that fill the table are stated -/
def q_by (vtr : Int32) (rec : Int64 → Int64 → Int32 → Int32 → Int32 → Int32) (x0 : Int32) (x1 x2 : Int64) (x3 x4 x5 : Int32) : Int32 :=
  if x3 = (-1) then -(rec x2 (x1 &&& ((j_X2_bit x0) ^^^ (-1))) x0 (1 - x4) x5)
  else if j_X2_beats x0 x3 vtr = 0 then (-(j_X1_trickWorth x3 x0 (1 - x4) x5)) - (rec x2 (x1 &&& ((j_X2_bit x0) ^^^ (-1))) (-1) (1 - x4) 0)
  else (j_X1_trickWorth x3 x0 x4 x5) + (rec (x1 &&& ((j_X2_bit x0) ^^^ (-1))) x2 (-1) x4 0)
def q_max (vtr : Int32) (rec : Int64 → Int64 → Int32 → Int32 → Int32 → Int32) (x1 x2 : Int64) (x3 x4 x5 : Int32) : Nat → Nat → Int32 → Int32
  | 0, _, b => b
  | n + 1, i, b => q_max vtr rec x1 x2 x3 x4 x5 n (i + 1) (if j_X1_mayPlay vtr x1 (nI i) x3 = 0 then b else (if b < q_by vtr rec (nI i) x1 x2 x3 x4 x5 then q_by vtr rec (nI i) x1 x2 x3 x4 x5 else b))
/-- the value of a rest of d cards at most -/
def q_m (vtr : Int32) : Nat → Int64 → Int64 → Int32 → Int32 → Int32 → Int32
  | 0, _, _, _, _, _ => 0
  | d + 1, x1, x2, x3, x4, x5 => if lg_cmp x1 0 = 0 then 0 else q_max vtr (q_m vtr d) x1 x2 x3 x4 x5 42 0 (-1000)
def q_st (vfa vsa : Int64) (x0 x1 : Int64) (x2 : Int32) : Int32 := if x2 = 0 then j_X1_stateOf vfa vsa x0 x1 x2 else j_X1_stateOf vfa vsa x1 x0 x2
abbrev jQn (D : va_G) (r : Int32) (Val : (Nat → Int32) → Prop) (wf : (Nat → Int32) → va_W) (tys : List (ClassId × FieldType)) (A : Nat → Prop) : Array Value → State → Outcome → State → Prop := va_Qi (fun (q : Int32) (u : Nat → Int32) => q = r ∧ Val u) (fun u t => va_P D vwCl (wf u) t.heap ∧ va_K D vwCl tys t ∧ va_D A (wf u)) A
abbrev rqM (d : Nat) : Room := { frames := 3 * d + 6, cells := 0, slots := 0, locals := 100 * d + 150 }
abbrev rqB (d : Nat) : Room := { frames := 3 * d + 5, cells := 0, slots := 0, locals := 100 * d + 118 }
abbrev rqR (d : Nat) : Room := { frames := 3 * d + 7, cells := 0, slots := 0, locals := 100 * d + 189 }
abbrev jn_Met (l : Launch) (y : MethodName) (wl : List Cond) (rm : Room) (D : va_G) (av : List Value) (aE aM : Nat) (cM : ClassId) (tab : Nat → Int32) (vfa vsa : Int64) (vtr : Int32) (r : Int32) (Val : (Nat → Int32) → Prop) : Prop :=
  ∀ sz : Nat, Met l y wl rm (jPw D av (jE aE aM cM tab vfa vsa vtr) [(cM, .int)] sz) (jQn D r Val (fun u => jE aE aM cM u vfa vsa vtr) [(cM, .int)] (va_A (jE aE aM cM tab vfa vsa vtr) sz)) 0 0 (va_A (jE aE aM cM tab vfa vsa vtr) sz)
def qM (l : Launch) (D : va_G) (aE aM : Nat) (cM : ClassId) (vfa vsa : Int64) (vtr : Int32) (OK : Nat → Int64 → Int64 → Int32 → Int32 → Prop) (Val : (Nat → Int32) → Prop) (d : Nat) : Prop :=
  ∀ (x1 x2 : Int64) (x3 x4 x5 : Int32) (tab : Nat → Int32), OK d x1 x2 x3 x4 → Val tab → jn_Met l yX1_margin wsX1_margin (rqM d) D [.ref aE, .long x1, .long x2, .int x3, .int x4, .int x5, .int (nI d)] aE aM cM tab vfa vsa vtr (q_m vtr d x1 x2 x3 x4 x5) Val
def qR (l : Launch) (D : va_G) (aE aM : Nat) (cM : ClassId) (vfa vsa : Int64) (vtr : Int32) (OK : Nat → Int64 → Int64 → Int32 → Int32 → Prop) (Val : (Nat → Int32) → Prop) (d : Nat) : Prop :=
  ∀ (x0 x1 : Int64) (x2 : Int32) (tab : Nat → Int32), OK d x0 x1 (-1) x2 → Val tab → jn_Met l yX1_rest wsX1_rest (rqR d) D [.ref aE, .long x0, .long x1, .int x2, .int (nI d)] aE aM cM tab vfa vsa vtr (q_m vtr d x0 x1 (-1) x2 0) Val
def qB (l : Launch) (D : va_G) (aE aM : Nat) (cM : ClassId) (vfa vsa : Int64) (vtr : Int32) (OK : Nat → Int64 → Int64 → Int32 → Int32 → Prop) (Val : (Nat → Int32) → Prop) (d : Nat) : Prop :=
  ∀ (x0 : Int32) (x1 x2 : Int64) (x3 x4 x5 : Int32) (tab : Nat → Int32), (x3 = (-1) → OK d x2 (x1 &&& ((j_X2_bit x0) ^^^ (-1))) x0 (1 - x4)) → (¬ x3 = (-1) → OK d (x1 &&& ((j_X2_bit x0) ^^^ (-1))) x2 (-1) x4) → (¬ x3 = (-1) → OK d x2 (x1 &&& ((j_X2_bit x0) ^^^ (-1))) (-1) (1 - x4)) → Val tab → jn_Met l yX1_marginBy wsX1_marginBy (rqB (d + 1)) D [.ref aE, .int x0, .long x1, .long x2, .int x3, .int x4, .int x5, .int (nI (d + 1))] aE aM cM tab vfa vsa vtr (q_by vtr (q_m vtr d) x0 x1 x2 x3 x4 x5) Val
section JNR
variable {p : Program} {l : Launch} {e : Env} {R : Room} {s : State} {m : MethodId} {args : Array Value} {below : List Frame} {meth : Method} {c : Code} {H : Heap} {locs : List Loc} {cells slots : Nat} {Q : State → Prop}
variable {cc bytes : ByteArray} {pc index n : Nat} {ls : Array Slot} {rest st0 : List Value} {nL maxL : Nat} {Ts wl wl' : List Cond} {own C : String} {y : MethodName} {rm : Room} {ret : Option FieldType} {D : va_G} {As : List Value} {wn : va_W} {tys : List (ClassId × FieldType)} {b : Nat} {A : Nat → Prop} {Val : (Nat → Int32) → Prop} {aE aM : Nat} {cM : ClassId} {tab : Nat → Int32} {vfa vsa : Int64} {vtr : Int32}
theorem jn_iret {v z : Int32} (u : Nat → Int32) (hx : p.tables.exec = Jvm.exec) (hb : c.code = cc) (hr : meth.sig.returnType = some .int) (hlocks : meth.locks = false) (hK : va_K D vwCl [(cM, .int)] s) (hP : va_P D vwCl (jE aE aM cM u vfa vsa vtr) H) (hD : va_D A (jE aE aM cM u vfa vsa vtr)) (hS : va_S A s.heap H locs) (hdg : decode cc pc = .ok (.ireturn, 1)) (hu : Val u) (hv : v = z) : W p l e R s m args below meth c H locs cells slots (MQ below (jQn D z Val (fun u => jE aE aM cM u vfa vsa vtr) [(cM, .int)] A) args s cells slots A) (F0 m pc ls [.int v]) := by
  subst hv
  exact W.iret hx hb hr (fun t ht hW => ⟨⟨v, u, rfl, ⟨rfl, hu⟩, by rw [ht]; exact hP, va_K.moved hW.alike hK, hD⟩, hS.F ht⟩) hS.2.2 hdg
/-- a call that may fill the table -/
theorem jn_call {r : Int32} (S : CallFix p m c cc nL s args Ts own) (hM : jn_Met l y wl rm D (.ref aE :: As) aE aM cM tab vfa vsa vtr r Val) (hT : GoodIn Ts (wsV own index RX1 y wl)) (hw : wl = Cond.code y bytes maxL ret :: wl') (hd : y.cls = RX1 ∧ y.cls ≠ "java/lang/invoke/MethodHandle" ∧ y.cls ≠ "java/lang/invoke/VarHandle" ∧ (parseMethodDescriptor y.desc).map (fun d => d.parameters.length) = some n) (hn : As.length = n)
    (hR : (rm.cells = 0 ∧ rm.slots = 0) ∧ (rm.frames + 1 ≤ R.frames ∧ 8 + (maxL + 11) + rm.locals ≤ R.locals) ∧ cells ≤ R.cells ∧ slots ≤ R.slots) (hP : va_P D vwCl (jE aE aM cM tab vfa vsa vtr) H) (hK : va_K D vwCl [(cM, .int)] s) (hN : jN s) (hD : va_D A (jE aE aM cM tab vfa vsa vtr)) (hS : va_S A s.heap H locs) (hA : ∀ q : Nat, s.heap.size ≤ q → A q)
    (hl : lv_has ls nL []) (hst : st0 = As.reverse ++ .ref aE :: rest) (hW : (rest.map fun v => v.category).sum ≤ 8) (hdg : decode cc pc = .ok (.invokevirtual index, 3))
    (kk : ∀ (u : Nat → Int32), Val u → ∀ (H1 : Heap) (locs1 : List Loc), va_P D vwCl (jE aE aM cM u vfa vsa vtr) H1 → va_D A (jE aE aM cM u vfa vsa vtr) → va_S A s.heap H1 locs1 → W p l e R s m args below meth c H1 locs1 cells slots Q (F0 m (pc + 3) ls (.int r :: rest))) : W p l e R s m args below meth c H locs cells slots Q (F0 m pc ls st0) := by
  have hFc := va_free (wc := jE aE aM cM tab vfa vsa vtr) hD hS hA [0, 1] rfl
  refine va_calli (va_runV (As := As) (rest := rest) S (hM H.size) (cwV n S.2.2.2.2 hT hw hR.1.1 hR.1.2 hd hR.2.1) ⟨jPw_blind, va_recv hK hP (ci := 1) (q0 := 0) rfl rfl, fun U hU hW => ⟨rfl, by rw [hU], by rw [hU]; exact hP, va_K.moved hW.alike hK, jN.warm hW hN, hD.weaken (fun _ _ _ _ => trivial)⟩⟩ rfl hn hl.1 hst (lv_room hW) hdg ⟨hR.2.2.1, hR.2.2.2⟩) hS (fun q _ h => hFc q h) hFc (fun r' u t H1 locs1 ht hvm hw hB hz1 hk1 hS1 => ?_)
  obtain ⟨hP1, hK1, hD1⟩ := hB
  rw [ht] at hP1
  rw [hw.1]
  exact kk u hw.2 H1 locs1 hP1 (hD1.weaken (fun k q _ h => hFc _ h)) hS1
end JNR
theorem jx_vp {x : Int32} (h : vp_in x 8192) : ¬ x < 0 ∧ x < 8192 := by
  obtain ⟨i, hi, rfl⟩ := vp_in_of h (by decide)
  exact ⟨nI_pos (by omega), nI_lt (a := i) (b := 8192) hi (by decide)⟩
