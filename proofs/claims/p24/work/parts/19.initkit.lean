/-! MAKING OBJECTS: a nest mate's private constructor is called -/
section JI
variable {p : Program} {l : Launch} {e : Env} {R : Room} {s : State} {m : MethodId} {args : Array Value} {below : List Frame} {meth : Method} {c : Code} {H : Heap} {locs : List Loc} {cells slots : Nat} {Q : State → Prop}
variable {cc bytes : ByteArray} {pc index : Nat} {ls : Array Slot} {rest : List Value} {nL maxL mc ms : Nat} {Ts wl wl' : List Cond} {own host : String} {y : MethodName} {rm : Room} {D : va_G} {wd wb wr wn : va_W} {b : Nat} {A : Nat → Prop} {tys tyb : List (ClassId × FieldType)}
/-- a constructor of no arguments, of a nest mate: any end B -/
theorem ji_callIN {B : (Nat → Prop) → Unit → State → Prop} (S : CallFix p m c cc nL s args Ts own) (hM : ∀ sz : Nat, Met l y wl rm (jPw D [.ref b] wd tys sz) (va_Qv (fun (_ : Unit) => True) (B (va_A wd sz)) (va_A wd sz)) mc ms (va_A wd sz)) (hT : GoodIn Ts wl) (hw : wl = Cond.code y bytes maxL none :: wl') (hlk : va_Nw (.methodLinkNest own index y host) s) (hini : (Cond.initialized y.cls).before args s = true) (hins : (Cond.instanceMethod y).before args s = true) (hyn : y.name = "<init>") (hd : y.cls ≠ "java/lang/invoke/MethodHandle" ∧ y.cls ≠ "java/lang/invoke/VarHandle" ∧ (parseMethodDescriptor y.desc).map (fun d => d.parameters.length) = some 0)
    (hR : (rm.cells = mc ∧ rm.slots = ms) ∧ (rm.frames + 1 ≤ R.frames ∧ 8 + (maxL + 11) + rm.locals ≤ R.locals) ∧ cells + mc ≤ R.cells ∧ slots + ms ≤ R.slots) (hP : va_P D vwCl wb H) (hK : va_K D vwCl tyb s) (hN : jN s) (hD : va_D A wb) (hS : va_S A s.heap H locs) (hA : ∀ q : Nat, s.heap.size ≤ q → A q) (is ts : List Nat) (hi : is.map (fun i => wb[i]?) = wd.map some) (hnd : va_nd is = true) (ht : ts.filterMap (fun i => tyb[i]?) = tys)
    (hl : lv_has ls nL []) (hW : (rest.map fun v => v.category).sum ≤ 8) (hdg : decode cc pc = .ok (.invokespecial index, 3))
    (kk : ∀ (t : State) (H1 : Heap) (locs1 : List Loc), t.heap = H1 → s.vm.Alike t.vm → B (va_A wd H.size) () t → (∀ q : Nat, q < H.size → ¬ va_A wd H.size q → H1[q]? = H[q]?) → (∀ q, va_A wd H.size q → A q) → va_S A s.heap H1 locs1 → W p l e R s m args below meth c H1 locs1 (cells + mc) (slots + ms) Q (F0 m (pc + 3) ls rest)) : W p l e R s m args below meth c H locs cells slots Q (F0 m pc ls (.ref b :: rest)) := by
  have hPc := hP.sub is (jx_fm hi)
  have hKc := hK.sub ts ht
  have hDc := hD.sub is hnd hi
  have hFc := va_free (wc := wd) hD hS hA is hi
  exact va_callv (va_runIN (As := []) (rest := rest) S (hM H.size) ⟨va_cnB 0 S.2.2.2.2 hT hw hR.1.1 hR.1.2 hlk hini hd hR.2.1, hyn, hins⟩ ⟨jPw_blind, fun U hU hW => ⟨rfl, by rw [hU], by rw [hU]; exact hPc, va_K.moved hW.alike hKc, jN.warm hW hN, hDc.weaken (fun _ _ _ _ => trivial)⟩⟩ rfl rfl hl.1 rfl (lv_room hW) hdg ⟨hR.2.2.1, hR.2.2.2⟩) hS (fun q _ h => hFc q h) hFc (fun u t H1 locs1 ht hvm hw hB hz1 hk1 hS1 => kk t H1 locs1 ht hvm hB hk1 hFc hS1)
end JI
