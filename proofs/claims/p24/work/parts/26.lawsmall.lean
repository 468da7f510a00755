/-! P24: the law's worth (laid by wip/p24/law.py) -/
abbrev rL_worth : Room := { frames := 0, cells := 0, slots := 0, locals := 0 }
def j_L_worth (x0 : Int32) : Int32 := (if 40 ≤ x0 then (-5) else 10 - (x0 - x0 / 10 * 10))
set_option maxRecDepth 100000 in
set_option maxHeartbeats 4000000 in
theorem c_L_worth {l : Launch} {D : va_G} (x0 : Int32) : jR l yL_worth wsL_worth rL_worth D [.int x0] [] [] (.int (j_L_worth x0)) := by
  refine jR_of (cc := cL_worth) (maxL := 1) (ret := (some .int)) (by decide) rfl (Nat.le_of_ble_eq_true rfl) ?_
  intro p e s m below meth c ls S hr hlocks hP hK hN hl
  obtain ⟨hx, hb, hml, hown, hts⟩ := id S
  have hl : lv_has ls 1 [(0, .int x0)] := hl
  refine lv_iload_n hx hb dL_worth_0 rfl (lv_at hl 0 rfl) ?_
  refine lv_bipush (v := 40) hx hb dL_worth_1 (by decide) ?_
  refine lv_icmp_ge (tgt := 16) hx hb dL_worth_3 (by decide) (fun c_1 => ?_) (fun c_1 => ?_)
  · skip
    refine lv_bipush (v := (-5)) hx hb dL_worth_16 (by decide) ?_
    exact jr_iret hx hb hr hlocks dL_worth_18 (by simp only [j_L_worth, if_pos c_1])
  · skip
    refine lv_bipush (v := 10) hx hb dL_worth_6 (by decide) ?_
    refine lv_iload_n hx hb dL_worth_8 rfl (lv_at hl 0 rfl) ?_
    refine lv_bipush (v := 10) hx hb dL_worth_9 (by decide) ?_
    refine lv_irem hx hb dL_worth_11 (by decide) ?_
    refine lv_isub hx hb dL_worth_12 ?_
    refine lv_goto (tgt := 18) hx hb dL_worth_13 (by decide) ?_
    exact jr_iret hx hb hr hlocks dL_worth_18 (by simp only [j_L_worth, if_neg c_1])

