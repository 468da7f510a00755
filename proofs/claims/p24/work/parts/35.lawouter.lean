/-! P24: THREE GAMES (laid by wip/p24/lawmain.py) -/
section PZ
variable {p : Program} {l : Launch} {e : Env} {s : State} {m : MethodId} {below : List Frame} {meth : Method} {c : Code} {H : Heap} {locs : List Loc} {Q : State → Prop} {ls : Array Slot}
variable {b L : Nat} {xs : Nat → Int32} {D : va_G} {A : Nat → Prop} {cI : ClassId} {a0 aR aF aG : Nat}
variable {vrow : Nat → Int32} {vdrawn vtr vled vmov vw1 vw2 : Int32} {veo : Option Nat} {veb : Int32} {vh1 vt1 : Int64} {vp1 vk1 vg1 : Int32} {vh2 vt2 : Int64} {vp2 vk2 vg2 : Int32} {sp f g : Int32} {n dd a a' : Nat} {up : Nat → Int32}
set_option maxRecDepth 100000 in
set_option maxHeartbeats 8000000 in
theorem pz_outer (X : pz_X l p s m c b L xs D A cI) (hAq : ∀ q : Nat, A q → s.heap.size ≤ q) (fin : ∀ (H : Heap) (ls : Array Slot), W p l e room_1 s m #[Value.ref b] below meth c H [] 190 1523 Q (F0 m 763 ls [.int 1])) :
    ∀ (k dd : Nat), dd + k = 3 → ∀ (vrow : Nat → Int32) (vdrawn vtr vled vmov vw1 vw2 : Int32) (veo : Option Nat) (veb : Int32) (vh1 vt1 : Int64) (vp1 vk1 vg1 : Int32) (vh2 vt2 : Int64) (vp2 vk2 vg2 : Int32) (up0 ur us ut ug uw uh : Nat → Int32) (udrawn udealt uon uturn uled utr : Int32) (H : Heap) (locs : List Loc) (ls : Array Slot), zr_R vrow vdrawn vtr vled vmov vw1 vw2 vh1 vt1 vp1 vk1 vg1 vh2 vt2 vp2 vk2 vg2 up0 ur us ut ug uw uh udrawn udealt uon uturn uled utr → va_P D vwCl (jC a0 aR aF aG cI vrow vdrawn vtr vled vmov vw1 vw2 veo veb vh1 vt1 vp1 vk1 vg1 vh2 vt2 vp2 vk2 vg2) H → va_D A (jC a0 aR aF aG cI vrow vdrawn vtr vled vmov vw1 vw2 veo veb vh1 vt1 vp1 vk1 vg1 vh2 vt2 vp2 vk2 vg2) → va_S A s.heap H locs → lv_has ls 19 [(5, .int (nI dd)), (4, .int 1), (2, .int vw1), (3, .int vw2), (1, .ref a0), (0, .ref b)] → W p l e room_1 s m #[Value.ref b] below meth c H locs 190 1523 Q (F0 m 18 ls []) := by
  obtain ⟨S, hN, hXs, hbl, hbA, hA, hK, hL260⟩ := id X
  obtain ⟨hx, hb, hml, hown, hts⟩ := id S
  intro k
  induction k with
  | zero =>
    intro dd hk vrow vdrawn vtr vled vmov vw1 vw2 veo veb vh1 vt1 vp1 vk1 vg1 vh2 vt2 vp2 vk2 vg2 up0 ur us ut ug uw uh udrawn udealt uon uturn uled utr H locs ls hR hP hD hS hl
    have cd : (3 : Int32) ≤ nI dd := by rw [show dd = 3 by omega]; decide
    refine lv_iload hx hb dL_law_18 (lv_at hl 0 rfl) ?_
    refine lv_iconst (v := 3) hx hb dL_law_20 (by decide) ?_
    refine lv_icmp_ge (tgt := 761) hx hb dL_law_21 (by decide) (fun _ => ?_) (fun c_ => absurd cd c_)
    refine lv_iload hx hb dL_law_761 (lv_at hl 1 rfl) ?_
    exact va_forget (fun q h => hAq _ (hS.2.2 q h)) (fin H ls)
  | succ k ih =>
    intro dd hk vrow vdrawn vtr vled vmov vw1 vw2 veo veb vh1 vt1 vp1 vk1 vg1 vh2 vt2 vp2 vk2 vg2 up0 ur us ut ug uw uh udrawn udealt uon uturn uled utr H locs ls hR hP hD hS hl
    refine pz_deal X (by omega) hR hP hD hS hl (fun y_vrow y_vdrawn y_vtr y_vled y_vmov y_vw1 y_vw2 y_veo y_veb y_vh1 y_vt1 y_vp1 y_vk1 y_vg1 y_vh2 y_vt2 y_vp2 y_vk2 y_vg2 up' H1 locs1 ls1 hR1 hP1 hD1 hS1 hl1 => ?_)
    refine pz_game X (by omega) (fun z_vrow z_vdrawn z_vtr z_vled z_vmov z_vw1 z_vw2 z_veo z_veb z_vh1 z_vt1 z_vp1 z_vk1 z_vg1 z_vh2 z_vt2 z_vp2 z_vk2 z_vg2 sp' n' up2 H2 locs2 ls2 hR2 hm2 hP2 hD2 hS2 hl2 => ?_) 42 y_vrow y_vdrawn y_vtr y_vled y_vmov y_vw1 y_vw2 y_veo y_veb y_vh1 y_vt1 y_vp1 y_vk1 y_vg1 y_vh2 y_vt2 y_vp2 y_vk2 y_vg2 0 up' H1 locs1 ls1 hR1 hP1 hD1 hS1 hl1
    refine pz_over X hR2 hm2 hP2 hD2 hS2 hl2 (fun ls3 hl3 => ?_)
    obtain ⟨tr, ts, tt, tg, tw, th, td, to, tu, tl, tq, hZ, _, _⟩ := hR2
    exact ih (dd + 1) (by omega) z_vrow z_vdrawn z_vtr z_vled z_vmov z_vw1 z_vw2 z_veo z_veb z_vh1 z_vt1 z_vp1 z_vk1 z_vg1 z_vh2 z_vt2 z_vp2 z_vk2 z_vg2 _ _ _ _ _ _ _ _ _ _ _ _ _ H2 locs2 ls3 hZ hP2 hD2 hS2 hl3
end PZ
