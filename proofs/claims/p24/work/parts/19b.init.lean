/-! CONSTRUCTORS (laid by wip/p24/rows.py) -/
abbrev rX0_init : Room := { frames := 1, cells := 0, slots := 0, locals := 14 }
theorem inX0_init_X0 : ∀ w ∈ u_ws RX0 TX0 5, w ∈ wsX0_init := by decide +kernel
set_option maxRecDepth 100000 in
set_option maxHeartbeats 8000000 in
theorem c_X0_init {l : Launch} {D : va_G} (aF : Nat) : ∀ sz : Nat, Met l yX0_init wsX0_init rX0_init (jPw D [.ref aF] [(aF, .inr (0, [.long 0, .long 0, .int 0, .int 0, .int 0]))] [] sz) (va_Qv (fun (_ : Unit) => True) (fun (_ : Unit) (t : State) => va_P D vwCl (jA aF 0 0 0 0 0) t.heap ∧ va_K D vwCl [] t ∧ va_D (va_A [(aF, .inr (0, [.long 0, .long 0, .int 0, .int 0, .int 0]))] sz) (jA aF 0 0 0 0 0)) (va_A [(aF, .inr (0, [.long 0, .long 0, .int 0, .int 0, .int 0]))] sz)) 0 0 (va_A [(aF, .inr (0, [.long 0, .long 0, .int 0, .int 0, .int 0]))] sz) := by
  refine jW_of (QQ := fun A => va_Qv (fun (_ : Unit) => True) (fun (_ : Unit) (t : State) => va_P D vwCl (jA aF 0 0 0 0 0) t.heap ∧ va_K D vwCl [] t ∧ va_D A (jA aF 0 0 0 0 0)) A) (cc := cX0_init) (maxL := 1) (ret := none) (by decide) rfl (Nat.le_of_ble_eq_true rfl) ?_
  intro p e s m below meth c ls A S hr hlocks hini hP hK hN hD hS hA hl
  obtain ⟨hx, hb, hml, hown, hts⟩ := id S
  have hl : lv_has ls 1 [(0, .ref aF)] := hl
  refine lv_aload_n hx hb dX0_init_0 rfl (lv_at hl 0 rfl) ?_
  refine W.objInit hx hb hown (hts (.methodLink RX0 3 objectInit) (by decide +kernel)) (hts (.instanceMethod objectInit) (by decide +kernel)) (hts (.code objectInit ⟨#[0xb1]⟩ 1 none) (by decide +kernel)) rfl (by rw [hml]; exact hl.1) rfl dX0_init_1 (Nat.le_of_ble_eq_true rfl) (Nat.le_of_ble_eq_true rfl) ?_
  refine W.eq (g2 := F0 m 4 ls []) rfl ?_
  refine lv_aload_n hx hb dX0_init_4 rfl (lv_at hl 0 rfl) ?_
  refine lv_lconst (v := 0) hx hb dX0_init_5 (by decide) ?_
  refine va_put (D := D) (ci := 0) (v := .long 0) (ty := .long) (C := RX0) (T := TX0) (N := 5) hx hb hts inX0_init_X0 tyX0 tyX0_ok nmX0 hown hK hP hD hS 0 rfl rfl 0 (by decide) (hts (.fieldLink RX0 9 "ArchivistTricks$Archivist" "hand" "J") (by decide +kernel)) (fun _ h9 => h9) rfl (by decide +kernel) rfl rfl (Nat.le_of_ble_eq_true rfl) dX0_init_6 (fun H locs hP hD hS => ?_)
  have hP : va_P D vwCl [(aF, .inr (0, [.long 0, .long 0, .int 0, .int 0, .int 0]))] H := hP
  have hD : va_D A [(aF, .inr (0, [.long 0, .long 0, .int 0, .int 0, .int 0]))] := hD
  refine lv_aload_n hx hb dX0_init_9 rfl (lv_at hl 0 rfl) ?_
  refine lv_lconst (v := 0) hx hb dX0_init_10 (by decide) ?_
  refine va_put (D := D) (ci := 0) (v := .long 0) (ty := .long) (C := RX0) (T := TX0) (N := 5) hx hb hts inX0_init_X0 tyX0 tyX0_ok nmX0 hown hK hP hD hS 0 rfl rfl 1 (by decide) (hts (.fieldLink RX0 15 "ArchivistTricks$Archivist" "taken" "J") (by decide +kernel)) (fun _ h9 => h9) rfl (by decide +kernel) rfl rfl (Nat.le_of_ble_eq_true rfl) dX0_init_11 (fun H locs hP hD hS => ?_)
  have hP : va_P D vwCl [(aF, .inr (0, [.long 0, .long 0, .int 0, .int 0, .int 0]))] H := hP
  have hD : va_D A [(aF, .inr (0, [.long 0, .long 0, .int 0, .int 0, .int 0]))] := hD
  refine lv_aload_n hx hb dX0_init_14 rfl (lv_at hl 0 rfl) ?_
  refine lv_iconst (v := 0) hx hb dX0_init_15 (by decide) ?_
  refine va_put (D := D) (ci := 0) (v := .int 0) (ty := .int) (C := RX0) (T := TX0) (N := 5) hx hb hts inX0_init_X0 tyX0 tyX0_ok nmX0 hown hK hP hD hS 0 rfl rfl 2 (by decide) (hts (.fieldLink RX0 18 "ArchivistTricks$Archivist" "points" "I") (by decide +kernel)) (fun _ h9 => h9) rfl (by decide +kernel) rfl rfl (Nat.le_of_ble_eq_true rfl) dX0_init_16 (fun H locs hP hD hS => ?_)
  have hP : va_P D vwCl [(aF, .inr (0, [.long 0, .long 0, .int 0, .int 0, .int 0]))] H := hP
  have hD : va_D A [(aF, .inr (0, [.long 0, .long 0, .int 0, .int 0, .int 0]))] := hD
  refine lv_aload_n hx hb dX0_init_19 rfl (lv_at hl 0 rfl) ?_
  refine lv_iconst (v := 0) hx hb dX0_init_20 (by decide) ?_
  refine va_put (D := D) (ci := 0) (v := .int 0) (ty := .int) (C := RX0) (T := TX0) (N := 5) hx hb hts inX0_init_X0 tyX0 tyX0_ok nmX0 hown hK hP hD hS 0 rfl rfl 3 (by decide) (hts (.fieldLink RX0 22 "ArchivistTricks$Archivist" "tricks" "I") (by decide +kernel)) (fun _ h9 => h9) rfl (by decide +kernel) rfl rfl (Nat.le_of_ble_eq_true rfl) dX0_init_21 (fun H locs hP hD hS => ?_)
  have hP : va_P D vwCl [(aF, .inr (0, [.long 0, .long 0, .int 0, .int 0, .int 0]))] H := hP
  have hD : va_D A [(aF, .inr (0, [.long 0, .long 0, .int 0, .int 0, .int 0]))] := hD
  refine lv_aload_n hx hb dX0_init_24 rfl (lv_at hl 0 rfl) ?_
  refine lv_iconst (v := 0) hx hb dX0_init_25 (by decide) ?_
  refine va_put (D := D) (ci := 0) (v := .int 0) (ty := .int) (C := RX0) (T := TX0) (N := 5) hx hb hts inX0_init_X0 tyX0 tyX0_ok nmX0 hown hK hP hD hS 0 rfl rfl 4 (by decide) (hts (.fieldLink RX0 25 "ArchivistTricks$Archivist" "gloves" "I") (by decide +kernel)) (fun _ h9 => h9) rfl (by decide +kernel) rfl rfl (Nat.le_of_ble_eq_true rfl) dX0_init_26 (fun H locs hP hD hS => ?_)
  have hP : va_P D vwCl [(aF, .inr (0, [.long 0, .long 0, .int 0, .int 0, .int 0]))] H := hP
  have hD : va_D A [(aF, .inr (0, [.long 0, .long 0, .int 0, .int 0, .int 0]))] := hD
  have hP9 := hP.sub (ws' := [(aF, .inr (0, [.long 0, .long 0, .int 0, .int 0, .int 0]))]) [0] rfl
  have hD9 := hD.sub (ws' := [(aF, .inr (0, [.long 0, .long 0, .int 0, .int 0, .int 0]))]) [0] rfl rfl
  exact W.vret hx hb hr (fun t ht hW => ⟨⟨(), rfl, trivial, by rw [ht]; exact hP9, va_K.moved hW.alike hK, hD9⟩, hS.F ht⟩) hS.2.2 dX0_init_29

abbrev rX2_init : Room := { frames := 2, cells := 3, slots := 52, locals := 34 }
theorem inX2_init_X0 : ∀ w ∈ u_ws RX0 TX0 5, w ∈ wsX2_init := by decide +kernel
theorem inX2_init_X2 : ∀ w ∈ u_ws RX2 TX2 11, w ∈ wsX2_init := by decide +kernel
set_option maxRecDepth 100000 in
set_option maxHeartbeats 8000000 in
theorem c_X2_init {l : Launch} {D : va_G} (a0 : Nat) : ∀ sz : Nat, Met l yX2_init wsX2_init rX2_init (jPw D [.ref a0] [(a0, .inr (2, [.null, .null, .null, .int 0, .int 0, .int 0, .int 0, .int 0, .int 0, .null, .int 0]))] [] sz) (va_Qv (fun (_ : Unit) => True) (fun (_ : Unit) (t : State) => ∃ (aR aF aG : Nat) (cI : ClassId), va_P D vwCl (jC a0 aR aF aG cI (fun _ => 0) 42 (-1) (-1) (-1) 0 0 none 0 0 0 0 0 0 0 0 0 0 0) t.heap ∧ va_K D vwCl [(cI, .int)] t ∧ va_D (va_A [(a0, .inr (2, [.null, .null, .null, .int 0, .int 0, .int 0, .int 0, .int 0, .int 0, .null, .int 0]))] sz) (jC a0 aR aF aG cI (fun _ => 0) 42 (-1) (-1) (-1) 0 0 none 0 0 0 0 0 0 0 0 0 0 0)) (va_A [(a0, .inr (2, [.null, .null, .null, .int 0, .int 0, .int 0, .int 0, .int 0, .int 0, .null, .int 0]))] sz)) 3 52 (va_A [(a0, .inr (2, [.null, .null, .null, .int 0, .int 0, .int 0, .int 0, .int 0, .int 0, .null, .int 0]))] sz) := by
  refine jW_of (QQ := fun A => va_Qv (fun (_ : Unit) => True) (fun (_ : Unit) (t : State) => ∃ (aR aF aG : Nat) (cI : ClassId), va_P D vwCl (jC a0 aR aF aG cI (fun _ => 0) 42 (-1) (-1) (-1) 0 0 none 0 0 0 0 0 0 0 0 0 0 0) t.heap ∧ va_K D vwCl [(cI, .int)] t ∧ va_D A (jC a0 aR aF aG cI (fun _ => 0) 42 (-1) (-1) (-1) 0 0 none 0 0 0 0 0 0 0 0 0 0 0)) A) (cc := cX2_init) (maxL := 1) (ret := none) (by decide) rfl (Nat.le_of_ble_eq_true rfl) ?_
  intro p e s m below meth c ls A S hr hlocks hini hP hK hN hD hS hA hl
  obtain ⟨hx, hb, hml, hown, hts⟩ := id S
  have hl : lv_has ls 1 [(0, .ref a0)] := hl
  refine lv_aload_n hx hb dX2_init_0 rfl (lv_at hl 0 rfl) ?_
  refine W.objInit hx hb hown (hts (.methodLink RX2 3 objectInit) (by decide +kernel)) (hts (.instanceMethod objectInit) (by decide +kernel)) (hts (.code objectInit ⟨#[0xb1]⟩ 1 none) (by decide +kernel)) rfl (by rw [hml]; exact hl.1) rfl dX2_init_1 (Nat.le_of_ble_eq_true rfl) (Nat.le_of_ble_eq_true rfl) ?_
  refine W.eq (g2 := F0 m 4 ls []) rfl ?_
  refine lv_aload_n hx hb dX2_init_4 rfl (lv_at hl 0 rfl) ?_
  refine lv_bipush (v := 42) hx hb dX2_init_5 (by decide) ?_
  refine va_newa (atype := .int) (n := 42) (N' := 42) (a0 := (42, .inl (fun _ => 0))) hx hb (hts (.arrayClass .int) (by decide +kernel)) rfl hK hP hD hS hA (fun _ => rfl) (by decide) (by decide) (Nat.le_of_ble_eq_true rfl) (Nat.le_of_ble_eq_true rfl) (Nat.le_of_ble_eq_true rfl) dX2_init_7 (fun n1 c1 H hK hP hD hS => ?_)
  have hK : va_K D vwCl [(c1, .int)] s := hK
  have hP : va_P D vwCl [(a0, .inr (2, [.null, .null, .null, .int 0, .int 0, .int 0, .int 0, .int 0, .int 0, .null, .int 0])), (n1, .inl (c1, 42, .inl (fun _ => 0)))] H := hP
  have hD : va_D A [(a0, .inr (2, [.null, .null, .null, .int 0, .int 0, .int 0, .int 0, .int 0, .int 0, .null, .int 0])), (n1, .inl (c1, 42, .inl (fun _ => 0)))] := hD
  refine W.widen (k := 1) (n := 42) (Nat.le_of_ble_eq_true rfl) (Nat.le_of_ble_eq_true rfl) ?_
  refine va_putF (D := D) (ci := 2) (v := .ref n1) (ty := .array .int) (C := RX2) (T := TX2) (N := 11) hx hb hts inX2_init_X2 tyX2 tyX2_ok nmX2 hown hK hP hD hS 0 rfl rfl 0 (by decide) (hts (.fieldLink RX2 9 "ArchivistTricks" "row" "[I") (by decide +kernel)) (fun _ h9 => h9) rfl hini rfl (by decide +kernel) rfl rfl (Nat.le_of_ble_eq_true rfl) dX2_init_9 (fun H locs hP hD hS => ?_)
  have hP : va_P D vwCl [(a0, .inr (2, [.ref n1, .null, .null, .int 0, .int 0, .int 0, .int 0, .int 0, .int 0, .null, .int 0])), (n1, .inl (c1, 42, .inl (fun _ => 0)))] H := hP
  have hD : va_D A [(a0, .inr (2, [.ref n1, .null, .null, .int 0, .int 0, .int 0, .int 0, .int 0, .int 0, .null, .int 0])), (n1, .inl (c1, 42, .inl (fun _ => 0)))] := hD
  refine lv_aload_n hx hb dX2_init_12 rfl (lv_at hl 0 rfl) ?_
  refine va_new (ci := 0) (fs := [.long 0, .long 0, .int 0, .int 0, .int 0]) (C := RX0) (T := TX0) (N := 5) hx hb hts inX2_init_X0 tyX0 tyX0_ok hown (hts (.classLink RX2 13 RX0) (by decide +kernel)) (hts (.instantiable RX0 5) (by decide +kernel)) (hts (.initialized RX0) (by decide +kernel)) hK hP hD hS hA rfl (fun j hj => by rcases (show j = 0 ∨ j = 1 ∨ j = 2 ∨ j = 3 ∨ j = 4 by omega) with rfl | rfl | rfl | rfl | rfl <;> rfl) (Nat.le_of_ble_eq_true rfl) (Nat.le_of_ble_eq_true rfl) dX2_init_13 (fun n2 H hP hD hS => ?_)
  have hP : va_P D vwCl [(a0, .inr (2, [.ref n1, .null, .null, .int 0, .int 0, .int 0, .int 0, .int 0, .int 0, .null, .int 0])), (n1, .inl (c1, 42, .inl (fun _ => 0))), (n2, .inr (0, [.long 0, .long 0, .int 0, .int 0, .int 0]))] H := hP
  have hD : va_D A [(a0, .inr (2, [.ref n1, .null, .null, .int 0, .int 0, .int 0, .int 0, .int 0, .int 0, .null, .int 0])), (n1, .inl (c1, 42, .inl (fun _ => 0))), (n2, .inr (0, [.long 0, .long 0, .int 0, .int 0, .int 0]))] := hD
  refine W.widen (k := 2) (n := 47) (Nat.le_of_ble_eq_true rfl) (Nat.le_of_ble_eq_true rfl) ?_
  refine lv_dup hx hb dX2_init_16 rfl ?_
  refine ji_callIN (mc := 0) (ms := 0) (rm := rX0_init) (tys := []) (B := fun A9 (_ : Unit) (t : State) => va_P D vwCl (jA n2 0 0 0 0 0) t.heap ∧ va_K D vwCl [] t ∧ va_D A9 (jA n2 0 0 0 0 0)) (wd := [(n2, .inr (0, [.long 0, .long 0, .int 0, .int 0, .int 0]))]) (rest := [.ref n2, .ref a0]) S (c_X0_init n2) gX2_init_X0_init_n15 rfl hN.2.2.2.2.2.2.1 (hts (.initialized RX0) (by decide +kernel)) (hts (.instanceMethod yX0_init) (by decide +kernel)) rfl (by decide +kernel) ⟨⟨rfl, rfl⟩, ⟨Nat.le_of_ble_eq_true rfl, Nat.le_of_ble_eq_true rfl⟩, Nat.le_of_ble_eq_true rfl, Nat.le_of_ble_eq_true rfl⟩ hP hK hN hD hS hA [2] [] rfl rfl rfl (lv_nil hl) (Nat.le_of_ble_eq_true rfl) dX2_init_17 (fun t H1 locs1 ht hvm hB hk1 hFc hS => ?_)
  obtain ⟨hP1, hK1, hD1⟩ := hB
  rw [ht] at hP1
  obtain ⟨hP, hD⟩ := jw_join (wr := [(a0, .inr (2, [.ref n1, .null, .null, .int 0, .int 0, .int 0, .int 0, .int 0, .int 0, .null, .int 0])), (n1, .inl (c1, 42, .inl (fun _ => 0)))]) (wn := [(a0, .inr (2, [.ref n1, .null, .null, .int 0, .int 0, .int 0, .int 0, .int 0, .int 0, .null, .int 0])), (n1, .inl (c1, 42, .inl (fun _ => 0))), (n2, .inr (0, [.long 0, .long 0, .int 0, .int 0, .int 0]))]) hP hD [2] [0, 1] [0, 1, 2] rfl rfl rfl (by decide) rfl rfl hk1 hFc hP1 hD1
  generalize H1 = H at hP hS ⊢
  have hP : va_P D vwCl [(a0, .inr (2, [.ref n1, .null, .null, .int 0, .int 0, .int 0, .int 0, .int 0, .int 0, .null, .int 0])), (n1, .inl (c1, 42, .inl (fun _ => 0))), (n2, .inr (0, [.long 0, .long 0, .int 0, .int 0, .int 0]))] H := hP
  have hD : va_D A [(a0, .inr (2, [.ref n1, .null, .null, .int 0, .int 0, .int 0, .int 0, .int 0, .int 0, .null, .int 0])), (n1, .inl (c1, 42, .inl (fun _ => 0))), (n2, .inr (0, [.long 0, .long 0, .int 0, .int 0, .int 0]))] := hD
  refine va_putF (D := D) (ci := 2) (v := .ref n2) (ty := .object "ArchivistTricks$Archivist") (C := RX2) (T := TX2) (N := 11) hx hb hts inX2_init_X2 tyX2 tyX2_ok nmX2 hown hK hP hD hS 0 rfl rfl 1 (by decide) (hts (.fieldLink RX2 16 "ArchivistTricks" "first" "LArchivistTricks$Archivist;") (by decide +kernel)) (fun _ h9 => h9) rfl hini rfl (by decide +kernel) rfl rfl (Nat.le_of_ble_eq_true rfl) dX2_init_20 (fun H locs hP hD hS => ?_)
  have hP : va_P D vwCl [(a0, .inr (2, [.ref n1, .ref n2, .null, .int 0, .int 0, .int 0, .int 0, .int 0, .int 0, .null, .int 0])), (n1, .inl (c1, 42, .inl (fun _ => 0))), (n2, .inr (0, [.long 0, .long 0, .int 0, .int 0, .int 0]))] H := hP
  have hD : va_D A [(a0, .inr (2, [.ref n1, .ref n2, .null, .int 0, .int 0, .int 0, .int 0, .int 0, .int 0, .null, .int 0])), (n1, .inl (c1, 42, .inl (fun _ => 0))), (n2, .inr (0, [.long 0, .long 0, .int 0, .int 0, .int 0]))] := hD
  refine lv_aload_n hx hb dX2_init_23 rfl (lv_at hl 0 rfl) ?_
  refine va_new (ci := 0) (fs := [.long 0, .long 0, .int 0, .int 0, .int 0]) (C := RX0) (T := TX0) (N := 5) hx hb hts inX2_init_X0 tyX0 tyX0_ok hown (hts (.classLink RX2 13 RX0) (by decide +kernel)) (hts (.instantiable RX0 5) (by decide +kernel)) (hts (.initialized RX0) (by decide +kernel)) hK hP hD hS hA rfl (fun j hj => by rcases (show j = 0 ∨ j = 1 ∨ j = 2 ∨ j = 3 ∨ j = 4 by omega) with rfl | rfl | rfl | rfl | rfl <;> rfl) (Nat.le_of_ble_eq_true rfl) (Nat.le_of_ble_eq_true rfl) dX2_init_24 (fun n3 H hP hD hS => ?_)
  have hP : va_P D vwCl [(a0, .inr (2, [.ref n1, .ref n2, .null, .int 0, .int 0, .int 0, .int 0, .int 0, .int 0, .null, .int 0])), (n1, .inl (c1, 42, .inl (fun _ => 0))), (n2, .inr (0, [.long 0, .long 0, .int 0, .int 0, .int 0])), (n3, .inr (0, [.long 0, .long 0, .int 0, .int 0, .int 0]))] H := hP
  have hD : va_D A [(a0, .inr (2, [.ref n1, .ref n2, .null, .int 0, .int 0, .int 0, .int 0, .int 0, .int 0, .null, .int 0])), (n1, .inl (c1, 42, .inl (fun _ => 0))), (n2, .inr (0, [.long 0, .long 0, .int 0, .int 0, .int 0])), (n3, .inr (0, [.long 0, .long 0, .int 0, .int 0, .int 0]))] := hD
  refine W.widen (k := 3) (n := 52) (Nat.le_of_ble_eq_true rfl) (Nat.le_of_ble_eq_true rfl) ?_
  refine lv_dup hx hb dX2_init_27 rfl ?_
  refine ji_callIN (mc := 0) (ms := 0) (rm := rX0_init) (tys := []) (B := fun A9 (_ : Unit) (t : State) => va_P D vwCl (jA n3 0 0 0 0 0) t.heap ∧ va_K D vwCl [] t ∧ va_D A9 (jA n3 0 0 0 0 0)) (wd := [(n3, .inr (0, [.long 0, .long 0, .int 0, .int 0, .int 0]))]) (rest := [.ref n3, .ref a0]) S (c_X0_init n3) gX2_init_X0_init_n15 rfl hN.2.2.2.2.2.2.1 (hts (.initialized RX0) (by decide +kernel)) (hts (.instanceMethod yX0_init) (by decide +kernel)) rfl (by decide +kernel) ⟨⟨rfl, rfl⟩, ⟨Nat.le_of_ble_eq_true rfl, Nat.le_of_ble_eq_true rfl⟩, Nat.le_of_ble_eq_true rfl, Nat.le_of_ble_eq_true rfl⟩ hP hK hN hD hS hA [3] [] rfl rfl rfl (lv_nil hl) (Nat.le_of_ble_eq_true rfl) dX2_init_28 (fun t H1 locs1 ht hvm hB hk1 hFc hS => ?_)
  obtain ⟨hP1, hK1, hD1⟩ := hB
  rw [ht] at hP1
  obtain ⟨hP, hD⟩ := jw_join (wr := [(a0, .inr (2, [.ref n1, .ref n2, .null, .int 0, .int 0, .int 0, .int 0, .int 0, .int 0, .null, .int 0])), (n1, .inl (c1, 42, .inl (fun _ => 0))), (n2, .inr (0, [.long 0, .long 0, .int 0, .int 0, .int 0]))]) (wn := [(a0, .inr (2, [.ref n1, .ref n2, .null, .int 0, .int 0, .int 0, .int 0, .int 0, .int 0, .null, .int 0])), (n1, .inl (c1, 42, .inl (fun _ => 0))), (n2, .inr (0, [.long 0, .long 0, .int 0, .int 0, .int 0])), (n3, .inr (0, [.long 0, .long 0, .int 0, .int 0, .int 0]))]) hP hD [3] [0, 1, 2] [0, 1, 2, 3] rfl rfl rfl (by decide) rfl rfl hk1 hFc hP1 hD1
  generalize H1 = H at hP hS ⊢
  have hP : va_P D vwCl [(a0, .inr (2, [.ref n1, .ref n2, .null, .int 0, .int 0, .int 0, .int 0, .int 0, .int 0, .null, .int 0])), (n1, .inl (c1, 42, .inl (fun _ => 0))), (n2, .inr (0, [.long 0, .long 0, .int 0, .int 0, .int 0])), (n3, .inr (0, [.long 0, .long 0, .int 0, .int 0, .int 0]))] H := hP
  have hD : va_D A [(a0, .inr (2, [.ref n1, .ref n2, .null, .int 0, .int 0, .int 0, .int 0, .int 0, .int 0, .null, .int 0])), (n1, .inl (c1, 42, .inl (fun _ => 0))), (n2, .inr (0, [.long 0, .long 0, .int 0, .int 0, .int 0])), (n3, .inr (0, [.long 0, .long 0, .int 0, .int 0, .int 0]))] := hD
  refine va_putF (D := D) (ci := 2) (v := .ref n3) (ty := .object "ArchivistTricks$Archivist") (C := RX2) (T := TX2) (N := 11) hx hb hts inX2_init_X2 tyX2 tyX2_ok nmX2 hown hK hP hD hS 0 rfl rfl 2 (by decide) (hts (.fieldLink RX2 20 "ArchivistTricks" "second" "LArchivistTricks$Archivist;") (by decide +kernel)) (fun _ h9 => h9) rfl hini rfl (by decide +kernel) rfl rfl (Nat.le_of_ble_eq_true rfl) dX2_init_31 (fun H locs hP hD hS => ?_)
  have hP : va_P D vwCl [(a0, .inr (2, [.ref n1, .ref n2, .ref n3, .int 0, .int 0, .int 0, .int 0, .int 0, .int 0, .null, .int 0])), (n1, .inl (c1, 42, .inl (fun _ => 0))), (n2, .inr (0, [.long 0, .long 0, .int 0, .int 0, .int 0])), (n3, .inr (0, [.long 0, .long 0, .int 0, .int 0, .int 0]))] H := hP
  have hD : va_D A [(a0, .inr (2, [.ref n1, .ref n2, .ref n3, .int 0, .int 0, .int 0, .int 0, .int 0, .int 0, .null, .int 0])), (n1, .inl (c1, 42, .inl (fun _ => 0))), (n2, .inr (0, [.long 0, .long 0, .int 0, .int 0, .int 0])), (n3, .inr (0, [.long 0, .long 0, .int 0, .int 0, .int 0]))] := hD
  refine lv_aload_n hx hb dX2_init_34 rfl (lv_at hl 0 rfl) ?_
  refine lv_bipush (v := 42) hx hb dX2_init_35 (by decide) ?_
  refine va_put (D := D) (ci := 2) (v := .int 42) (ty := .int) (C := RX2) (T := TX2) (N := 11) hx hb hts inX2_init_X2 tyX2 tyX2_ok nmX2 hown hK hP hD hS 0 rfl rfl 3 (by decide) (hts (.fieldLink RX2 23 "ArchivistTricks" "drawn" "I") (by decide +kernel)) (fun _ h9 => h9) rfl (by decide +kernel) rfl rfl (Nat.le_of_ble_eq_true rfl) dX2_init_37 (fun H locs hP hD hS => ?_)
  have hP : va_P D vwCl [(a0, .inr (2, [.ref n1, .ref n2, .ref n3, .int 42, .int 0, .int 0, .int 0, .int 0, .int 0, .null, .int 0])), (n1, .inl (c1, 42, .inl (fun _ => 0))), (n2, .inr (0, [.long 0, .long 0, .int 0, .int 0, .int 0])), (n3, .inr (0, [.long 0, .long 0, .int 0, .int 0, .int 0]))] H := hP
  have hD : va_D A [(a0, .inr (2, [.ref n1, .ref n2, .ref n3, .int 42, .int 0, .int 0, .int 0, .int 0, .int 0, .null, .int 0])), (n1, .inl (c1, 42, .inl (fun _ => 0))), (n2, .inr (0, [.long 0, .long 0, .int 0, .int 0, .int 0])), (n3, .inr (0, [.long 0, .long 0, .int 0, .int 0, .int 0]))] := hD
  refine lv_aload_n hx hb dX2_init_40 rfl (lv_at hl 0 rfl) ?_
  refine lv_iconst (v := (-1)) hx hb dX2_init_41 (by decide) ?_
  refine va_put (D := D) (ci := 2) (v := .int (-1)) (ty := .int) (C := RX2) (T := TX2) (N := 11) hx hb hts inX2_init_X2 tyX2 tyX2_ok nmX2 hown hK hP hD hS 0 rfl rfl 4 (by decide) (hts (.fieldLink RX2 27 "ArchivistTricks" "trumpProvenance" "I") (by decide +kernel)) (fun _ h9 => h9) rfl (by decide +kernel) rfl rfl (Nat.le_of_ble_eq_true rfl) dX2_init_42 (fun H locs hP hD hS => ?_)
  have hP : va_P D vwCl [(a0, .inr (2, [.ref n1, .ref n2, .ref n3, .int 42, .int (-1), .int 0, .int 0, .int 0, .int 0, .null, .int 0])), (n1, .inl (c1, 42, .inl (fun _ => 0))), (n2, .inr (0, [.long 0, .long 0, .int 0, .int 0, .int 0])), (n3, .inr (0, [.long 0, .long 0, .int 0, .int 0, .int 0]))] H := hP
  have hD : va_D A [(a0, .inr (2, [.ref n1, .ref n2, .ref n3, .int 42, .int (-1), .int 0, .int 0, .int 0, .int 0, .null, .int 0])), (n1, .inl (c1, 42, .inl (fun _ => 0))), (n2, .inr (0, [.long 0, .long 0, .int 0, .int 0, .int 0])), (n3, .inr (0, [.long 0, .long 0, .int 0, .int 0, .int 0]))] := hD
  refine lv_aload_n hx hb dX2_init_45 rfl (lv_at hl 0 rfl) ?_
  refine lv_iconst (v := (-1)) hx hb dX2_init_46 (by decide) ?_
  refine va_put (D := D) (ci := 2) (v := .int (-1)) (ty := .int) (C := RX2) (T := TX2) (N := 11) hx hb hts inX2_init_X2 tyX2 tyX2_ok nmX2 hown hK hP hD hS 0 rfl rfl 5 (by decide) (hts (.fieldLink RX2 30 "ArchivistTricks" "ledCard" "I") (by decide +kernel)) (fun _ h9 => h9) rfl (by decide +kernel) rfl rfl (Nat.le_of_ble_eq_true rfl) dX2_init_47 (fun H locs hP hD hS => ?_)
  have hP : va_P D vwCl [(a0, .inr (2, [.ref n1, .ref n2, .ref n3, .int 42, .int (-1), .int (-1), .int 0, .int 0, .int 0, .null, .int 0])), (n1, .inl (c1, 42, .inl (fun _ => 0))), (n2, .inr (0, [.long 0, .long 0, .int 0, .int 0, .int 0])), (n3, .inr (0, [.long 0, .long 0, .int 0, .int 0, .int 0]))] H := hP
  have hD : va_D A [(a0, .inr (2, [.ref n1, .ref n2, .ref n3, .int 42, .int (-1), .int (-1), .int 0, .int 0, .int 0, .null, .int 0])), (n1, .inl (c1, 42, .inl (fun _ => 0))), (n2, .inr (0, [.long 0, .long 0, .int 0, .int 0, .int 0])), (n3, .inr (0, [.long 0, .long 0, .int 0, .int 0, .int 0]))] := hD
  refine lv_aload_n hx hb dX2_init_50 rfl (lv_at hl 0 rfl) ?_
  refine lv_iconst (v := (-1)) hx hb dX2_init_51 (by decide) ?_
  refine va_put (D := D) (ci := 2) (v := .int (-1)) (ty := .int) (C := RX2) (T := TX2) (N := 11) hx hb hts inX2_init_X2 tyX2 tyX2_ok nmX2 hown hK hP hD hS 0 rfl rfl 6 (by decide) (hts (.fieldLink RX2 33 "ArchivistTricks" "mover" "I") (by decide +kernel)) (fun _ h9 => h9) rfl (by decide +kernel) rfl rfl (Nat.le_of_ble_eq_true rfl) dX2_init_52 (fun H locs hP hD hS => ?_)
  have hP : va_P D vwCl [(a0, .inr (2, [.ref n1, .ref n2, .ref n3, .int 42, .int (-1), .int (-1), .int (-1), .int 0, .int 0, .null, .int 0])), (n1, .inl (c1, 42, .inl (fun _ => 0))), (n2, .inr (0, [.long 0, .long 0, .int 0, .int 0, .int 0])), (n3, .inr (0, [.long 0, .long 0, .int 0, .int 0, .int 0]))] H := hP
  have hD : va_D A [(a0, .inr (2, [.ref n1, .ref n2, .ref n3, .int 42, .int (-1), .int (-1), .int (-1), .int 0, .int 0, .null, .int 0])), (n1, .inl (c1, 42, .inl (fun _ => 0))), (n2, .inr (0, [.long 0, .long 0, .int 0, .int 0, .int 0])), (n3, .inr (0, [.long 0, .long 0, .int 0, .int 0, .int 0]))] := hD
  refine lv_aload_n hx hb dX2_init_55 rfl (lv_at hl 0 rfl) ?_
  refine lv_iconst (v := 0) hx hb dX2_init_56 (by decide) ?_
  refine va_put (D := D) (ci := 2) (v := .int 0) (ty := .int) (C := RX2) (T := TX2) (N := 11) hx hb hts inX2_init_X2 tyX2 tyX2_ok nmX2 hown hK hP hD hS 0 rfl rfl 7 (by decide) (hts (.fieldLink RX2 36 "ArchivistTricks" "firstWins" "I") (by decide +kernel)) (fun _ h9 => h9) rfl (by decide +kernel) rfl rfl (Nat.le_of_ble_eq_true rfl) dX2_init_57 (fun H locs hP hD hS => ?_)
  have hP : va_P D vwCl [(a0, .inr (2, [.ref n1, .ref n2, .ref n3, .int 42, .int (-1), .int (-1), .int (-1), .int 0, .int 0, .null, .int 0])), (n1, .inl (c1, 42, .inl (fun _ => 0))), (n2, .inr (0, [.long 0, .long 0, .int 0, .int 0, .int 0])), (n3, .inr (0, [.long 0, .long 0, .int 0, .int 0, .int 0]))] H := hP
  have hD : va_D A [(a0, .inr (2, [.ref n1, .ref n2, .ref n3, .int 42, .int (-1), .int (-1), .int (-1), .int 0, .int 0, .null, .int 0])), (n1, .inl (c1, 42, .inl (fun _ => 0))), (n2, .inr (0, [.long 0, .long 0, .int 0, .int 0, .int 0])), (n3, .inr (0, [.long 0, .long 0, .int 0, .int 0, .int 0]))] := hD
  refine lv_aload_n hx hb dX2_init_60 rfl (lv_at hl 0 rfl) ?_
  refine lv_iconst (v := 0) hx hb dX2_init_61 (by decide) ?_
  refine va_put (D := D) (ci := 2) (v := .int 0) (ty := .int) (C := RX2) (T := TX2) (N := 11) hx hb hts inX2_init_X2 tyX2 tyX2_ok nmX2 hown hK hP hD hS 0 rfl rfl 8 (by decide) (hts (.fieldLink RX2 39 "ArchivistTricks" "secondWins" "I") (by decide +kernel)) (fun _ h9 => h9) rfl (by decide +kernel) rfl rfl (Nat.le_of_ble_eq_true rfl) dX2_init_62 (fun H locs hP hD hS => ?_)
  have hP : va_P D vwCl [(a0, .inr (2, [.ref n1, .ref n2, .ref n3, .int 42, .int (-1), .int (-1), .int (-1), .int 0, .int 0, .null, .int 0])), (n1, .inl (c1, 42, .inl (fun _ => 0))), (n2, .inr (0, [.long 0, .long 0, .int 0, .int 0, .int 0])), (n3, .inr (0, [.long 0, .long 0, .int 0, .int 0, .int 0]))] H := hP
  have hD : va_D A [(a0, .inr (2, [.ref n1, .ref n2, .ref n3, .int 42, .int (-1), .int (-1), .int (-1), .int 0, .int 0, .null, .int 0])), (n1, .inl (c1, 42, .inl (fun _ => 0))), (n2, .inr (0, [.long 0, .long 0, .int 0, .int 0, .int 0])), (n3, .inr (0, [.long 0, .long 0, .int 0, .int 0, .int 0]))] := hD
  refine lv_aload_n hx hb dX2_init_65 rfl (lv_at hl 0 rfl) ?_
  refine lv_null hx hb dX2_init_66 ?_
  refine va_put (D := D) (ci := 2) (v := .null) (ty := .object "ArchivistTricks$Ending") (C := RX2) (T := TX2) (N := 11) hx hb hts inX2_init_X2 tyX2 tyX2_ok nmX2 hown hK hP hD hS 0 rfl rfl 9 (by decide) (hts (.fieldLink RX2 42 "ArchivistTricks" "ending" "LArchivistTricks$Ending;") (by decide +kernel)) (fun _ h9 => h9) rfl (by decide +kernel) rfl rfl (Nat.le_of_ble_eq_true rfl) dX2_init_67 (fun H locs hP hD hS => ?_)
  have hP : va_P D vwCl [(a0, .inr (2, [.ref n1, .ref n2, .ref n3, .int 42, .int (-1), .int (-1), .int (-1), .int 0, .int 0, .null, .int 0])), (n1, .inl (c1, 42, .inl (fun _ => 0))), (n2, .inr (0, [.long 0, .long 0, .int 0, .int 0, .int 0])), (n3, .inr (0, [.long 0, .long 0, .int 0, .int 0, .int 0]))] H := hP
  have hD : va_D A [(a0, .inr (2, [.ref n1, .ref n2, .ref n3, .int 42, .int (-1), .int (-1), .int (-1), .int 0, .int 0, .null, .int 0])), (n1, .inl (c1, 42, .inl (fun _ => 0))), (n2, .inr (0, [.long 0, .long 0, .int 0, .int 0, .int 0])), (n3, .inr (0, [.long 0, .long 0, .int 0, .int 0, .int 0]))] := hD
  refine lv_aload_n hx hb dX2_init_70 rfl (lv_at hl 0 rfl) ?_
  refine lv_iconst (v := 0) hx hb dX2_init_71 (by decide) ?_
  refine va_put (D := D) (ci := 2) (v := .int 0) (ty := .boolean) (C := RX2) (T := TX2) (N := 11) hx hb hts inX2_init_X2 tyX2 tyX2_ok nmX2 hown hK hP hD hS 0 rfl rfl 10 (by decide) (hts (.fieldLink RX2 46 "ArchivistTricks" "endingBegun" "Z") (by decide +kernel)) (fun _ h9 => h9) rfl (by decide +kernel) rfl rfl (Nat.le_of_ble_eq_true rfl) dX2_init_72 (fun H locs hP hD hS => ?_)
  have hP : va_P D vwCl [(a0, .inr (2, [.ref n1, .ref n2, .ref n3, .int 42, .int (-1), .int (-1), .int (-1), .int 0, .int 0, .null, .int 0])), (n1, .inl (c1, 42, .inl (fun _ => 0))), (n2, .inr (0, [.long 0, .long 0, .int 0, .int 0, .int 0])), (n3, .inr (0, [.long 0, .long 0, .int 0, .int 0, .int 0]))] H := hP
  have hD : va_D A [(a0, .inr (2, [.ref n1, .ref n2, .ref n3, .int 42, .int (-1), .int (-1), .int (-1), .int 0, .int 0, .null, .int 0])), (n1, .inl (c1, 42, .inl (fun _ => 0))), (n2, .inr (0, [.long 0, .long 0, .int 0, .int 0, .int 0])), (n3, .inr (0, [.long 0, .long 0, .int 0, .int 0, .int 0]))] := hD
  have hP9 := hP.sub (ws' := [(a0, .inr (2, [.ref n1, .ref n2, .ref n3, .int 42, .int (-1), .int (-1), .int (-1), .int 0, .int 0, .null, .int 0])), (n2, .inr (0, [.long 0, .long 0, .int 0, .int 0, .int 0])), (n3, .inr (0, [.long 0, .long 0, .int 0, .int 0, .int 0])), (n1, .inl (c1, 42, .inl (fun _ => 0)))]) [0, 2, 3, 1] rfl
  have hD9 := hD.sub (ws' := [(a0, .inr (2, [.ref n1, .ref n2, .ref n3, .int 42, .int (-1), .int (-1), .int (-1), .int 0, .int 0, .null, .int 0])), (n2, .inr (0, [.long 0, .long 0, .int 0, .int 0, .int 0])), (n3, .inr (0, [.long 0, .long 0, .int 0, .int 0, .int 0])), (n1, .inl (c1, 42, .inl (fun _ => 0)))]) [0, 2, 3, 1] rfl rfl
  exact W.vret hx hb hr (fun t ht hW => ⟨⟨(), rfl, trivial, n1, n2, n3, c1, by rw [ht]; exact hP9, va_K.moved hW.alike hK, hD9⟩, hS.F ht⟩) hS.2.2 dX2_init_75

