set_option maxHeartbeats 4000000 in
set_option maxRecDepth 100000 in
theorem c_X6_tick (l : Launch) (G : GG) (ad : Nat → Nat) (sz : Nat) (I : Nat → Int32) (A : Nat → Nat → Int32) (J : Nat → Nat → Int64) (a1 : Int32) (r : Int32) (I' : Nat → Int32) (A' : Nat → Nat → Int32) (J' : Nat → Nat → Int64) (h : f_X6_tick I A J a1 = some (r, I', A', J')) : CtI l yX6_tick cX6_tick 2 (some .int) { frames := 1, cells := 0, slots := 0, locals := 22 } G [.ref (ad 0), .int a1] (w_X6 G ad I A J) (w_X6 G ad I' A' J') sz r := by
  refine ct_of (by decide) (Nat.le_of_ble_eq_true rfl) (fun p e s m below meth c ls C w hsz hl => ?_)
  have hx := C.1
  have hb := C.2.1
  have hl : lv_has ls 2 [(0, .ref (ad 0)), (1, .int a1)] := hl
  unfold f_X6_tick at h
  refine lv_iload_n hx hb dX6_tick_0 rfl (lv_at hl 1 rfl) ?_
  refine lv_iconst (v := 1) hx hb dX6_tick_1 (by decide) ?_
  refine lv_sipush (v := (1000)) hx hb dX6_tick_2 (by decide) ?_
  obtain ⟨x2, hx2, h⟩ := bdS h
  have w0 : WD G _ ([] ++ ([] ++ (w_X6 G ad I A J))) s _ _ := w
  refine cl_i (wc' := []) w0 (run_S (As := [.int a1, .int 1, .int 1000]) (rest := []) C w0 (c_X6_isIn l G  _ a1 1 1000 x2 hx2) mt_X6_isIn tt_630 rfl rfl ⟨Nat.le_of_ble_eq_true rfl, Nat.le_of_ble_eq_true rfl⟩ hl.1 (Nat.le_of_ble_eq_true rfl) dX6_tick_5 ⟨Nat.le_of_ble_eq_true rfl, Nat.le_of_ble_eq_true rfl⟩) (fun H locs w => ?_)
  have w : WD G _ (w_X6 G ad I A J) s H locs := w
  refine lv_if_ne (tgt := 14) hx hb dX6_tick_8 (by decide) (fun c3 => ?_) (fun c3 => ?_)
  · rw [if_neg c3] at h
    refine lv_aload_n hx hb dX6_tick_14 rfl (lv_at hl 0 rfl) ?_
    refine r_get C w 0 6 0 (.int (I 0)) ge_X6_0 rfl inX6 (by decide) tt_544 rfl dX6_tick_15 ?_
    refine lv_iload_n hx hb dX6_tick_18 rfl (lv_at hl 1 rfl) ?_
    refine lv_iadd hx hb dX6_tick_19 ?_
    refine lv_ldc hx hb C.2.2.2.2.1 (C.ts tt_633) dX6_tick_20 ?_
    refine lv_icmp_le (tgt := 28) hx hb dX6_tick_22 (by decide) (fun c4 => ?_) (fun c4 => ?_)
    · rw [if_pos c4] at h
      refine lv_aload_n hx hb dX6_tick_28 rfl (lv_at hl 0 rfl) ?_
      refine lv_dup hx hb dX6_tick_29 rfl ?_
      refine r_get C w 0 6 0 (.int (I 0)) ge_X6_0 rfl inX6 (by decide) tt_544 rfl dX6_tick_30 ?_
      refine lv_iload_n hx hb dX6_tick_33 rfl (lv_at hl 1 rfl) ?_
      refine lv_iadd hx hb dX6_tick_34 ?_
      refine r_put C w 0 6 0 (w_X6 G ad (upd I 0 ((I 0) + a1)) A J) tyX6_ok nmX6 ge_X6_0 rfl inX6 (by decide) tt_544 rfl rfl rfl (Nat.le_of_ble_eq_true rfl) st_X6_0_0 dX6_tick_35 (fun H locs w => ?_)
      refine lv_aload_n hx hb dX6_tick_38 rfl (lv_at hl 0 rfl) ?_
      refine r_get C w 0 6 0 (.int ((upd I 0 ((I 0) + a1)) 0)) ge_X6_0 rfl inX6 (by decide) tt_544 rfl dX6_tick_39 ?_
      cases h
      exact ret_I C w rfl rfl dX6_tick_42
    · rw [if_neg c4] at h
      refine lv_bipush (v := (-3)) hx hb dX6_tick_25 (by decide) ?_
      cases h
      exact ret_I C w rfl rfl dX6_tick_27
  · rw [if_pos c3] at h
    refine lv_bipush (v := (-2)) hx hb dX6_tick_11 (by decide) ?_
    cases h
    exact ret_I C w rfl rfl dX6_tick_13
set_option maxHeartbeats 4000000 in
set_option maxRecDepth 100000 in
theorem c_X6_roles (l : Launch) (G : GG) (ad : Nat → Nat) (sz : Nat) (I : Nat → Int32) (A : Nat → Nat → Int32) (J : Nat → Nat → Int64) (a1 : Int32) (a2 : Int32) (r : Int32) (I' : Nat → Int32) (A' : Nat → Nat → Int32) (J' : Nat → Nat → Int64) (h : f_X6_roles I A J a1 a2 = some (r, I', A', J')) : CtI l yX6_roles cX6_roles 4 (some .int) { frames := 2, cells := 0, slots := 0, locals := 42 } G [.ref (ad 0), .int a1, .int a2] (w_X6 G ad I A J) (w_X6 G ad I' A' J') sz r := by
  refine ct_of (by decide) (Nat.le_of_ble_eq_true rfl) (fun p e s m below meth c ls C w hsz hl => ?_)
  have hx := C.1
  have hb := C.2.1
  have hl : lv_has ls 4 [(0, .ref (ad 0)), (1, .int a1), (2, .int a2)] := hl
  unfold f_X6_roles at h
  refine lv_iload_n hx hb dX6_roles_0 rfl (lv_at hl 1 rfl) ?_
  obtain ⟨x5, hx5, h⟩ := bdS h
  have w0 : WD G _ ([] ++ ([] ++ (w_X6 G ad I A J))) s _ _ := w
  refine cl_i (wc' := []) w0 (run_S (As := [.int a1]) (rest := []) C w0 (c_X6_isUser l G  _ a1 x5 hx5) mt_X6_isUser tt_638 rfl rfl ⟨Nat.le_of_ble_eq_true rfl, Nat.le_of_ble_eq_true rfl⟩ hl.1 (Nat.le_of_ble_eq_true rfl) dX6_roles_1 ⟨Nat.le_of_ble_eq_true rfl, Nat.le_of_ble_eq_true rfl⟩) (fun H locs w => ?_)
  have w : WD G _ (w_X6 G ad I A J) s H locs := w
  refine lv_if_eq (tgt := 18) hx hb dX6_roles_4 (by decide) (fun c6 => ?_) (fun c6 => ?_)
  · rw [if_pos c6] at h
    refine lv_bipush (v := (-2)) hx hb dX6_roles_18 (by decide) ?_
    cases h
    exact ret_I C w rfl rfl dX6_roles_20
  · rw [if_neg c6] at h
    refine lv_iload_n hx hb dX6_roles_7 rfl (lv_at hl 2 rfl) ?_
    refine lv_iconst (v := 0) hx hb dX6_roles_8 (by decide) ?_
    refine lv_sipush (v := (255)) hx hb dX6_roles_9 (by decide) ?_
    obtain ⟨x7, hx7, h⟩ := bdS h
    have w0 : WD G _ ([] ++ ([] ++ (w_X6 G ad I A J))) s _ _ := w
    refine cl_i (wc' := []) w0 (run_S (As := [.int a2, .int 0, .int 255]) (rest := []) C w0 (c_X6_isIn l G  _ a2 0 255 x7 hx7) mt_X6_isIn tt_630 rfl rfl ⟨Nat.le_of_ble_eq_true rfl, Nat.le_of_ble_eq_true rfl⟩ hl.1 (Nat.le_of_ble_eq_true rfl) dX6_roles_12 ⟨Nat.le_of_ble_eq_true rfl, Nat.le_of_ble_eq_true rfl⟩) (fun H locs w => ?_)
    have w : WD G _ (w_X6 G ad I A J) s H locs := w
    refine lv_if_ne (tgt := 21) hx hb dX6_roles_15 (by decide) (fun c8 => ?_) (fun c8 => ?_)
    · rw [if_neg c8] at h
      refine lv_aload_n hx hb dX6_roles_21 rfl (lv_at hl 0 rfl) ?_
      refine r_get C w 0 6 1 (.ref (ad 1)) ge_X6_0 rfl inX6 (by decide) tt_545 rfl dX6_roles_22 ?_
      refine lv_iload_n hx hb dX6_roles_25 rfl (lv_at hl 1 rfl) ?_
      obtain ⟨hin9, h⟩ := gdS h
      refine r_iald C w 1 (A 1 a1.toNatClampNeg) ge_X6_1 rfl hin9 dX6_roles_26 ?_
      refine lv_istore_n (lv' := [(3, .int (A 1 a1.toNatClampNeg)), (0, .ref (ad 0)), (1, .int a1), (2, .int a2)]) hx hb dX6_roles_27 rfl hl (by decide) rfl (fun ls hl => ?_)
      refine lv_aload_n hx hb dX6_roles_28 rfl (lv_at hl 1 rfl) ?_
      refine r_get C w 0 6 1 (.ref (ad 1)) ge_X6_0 rfl inX6 (by decide) tt_545 rfl dX6_roles_29 ?_
      refine lv_iload_n hx hb dX6_roles_32 rfl (lv_at hl 2 rfl) ?_
      refine lv_iload_n hx hb dX6_roles_33 rfl (lv_at hl 3 rfl) ?_
      obtain ⟨hin10, h⟩ := gdS h
      refine r_iast C w 1 (w_X6 G ad I (aS A 1 a1.toNatClampNeg a2) J) ge_X6_1 hin10 st_X6_1 dX6_roles_34 (fun H locs w => ?_)
      refine lv_iload_n hx hb dX6_roles_35 rfl (lv_at hl 0 rfl) ?_
      cases h
      exact ret_I C w rfl rfl dX6_roles_36
    · rw [if_pos c8] at h
      refine lv_bipush (v := (-2)) hx hb dX6_roles_18 (by decide) ?_
      cases h
      exact ret_I C w rfl rfl dX6_roles_20
set_option maxHeartbeats 4000000 in
set_option maxRecDepth 100000 in
theorem c_X6_firm (l : Launch) (G : GG) (ad : Nat → Nat) (sz : Nat) (I : Nat → Int32) (A : Nat → Nat → Int32) (J : Nat → Nat → Int64) (a1 : Int32) (r : Int32) (I' : Nat → Int32) (A' : Nat → Nat → Int32) (J' : Nat → Nat → Int64) (h : f_X6_firm I A J a1 = some (r, I', A', J')) : CtI l yX6_firm cX6_firm 2 (some .int) { frames := 1, cells := 0, slots := 0, locals := 22 } G [.ref (ad 0), .int a1] (w_X6 G ad I A J) (w_X6 G ad I' A' J') sz r := by
  refine ct_of (by decide) (Nat.le_of_ble_eq_true rfl) (fun p e s m below meth c ls C w hsz hl => ?_)
  have hx := C.1
  have hb := C.2.1
  have hl : lv_has ls 2 [(0, .ref (ad 0)), (1, .int a1)] := hl
  unfold f_X6_firm at h
  refine lv_iload_n hx hb dX6_firm_0 rfl (lv_at hl 1 rfl) ?_
  refine lv_iconst (v := (-1)) hx hb dX6_firm_1 (by decide) ?_
  refine lv_bipush (v := (7)) hx hb dX6_firm_2 (by decide) ?_
  obtain ⟨x3, hx3, h⟩ := bdS h
  have w0 : WD G _ ([] ++ ([] ++ (w_X6 G ad I A J))) s _ _ := w
  refine cl_i (wc' := []) w0 (run_S (As := [.int a1, .int (-1), .int 7]) (rest := []) C w0 (c_X6_isIn l G  _ a1 (-1) 7 x3 hx3) mt_X6_isIn tt_630 rfl rfl ⟨Nat.le_of_ble_eq_true rfl, Nat.le_of_ble_eq_true rfl⟩ hl.1 (Nat.le_of_ble_eq_true rfl) dX6_firm_4 ⟨Nat.le_of_ble_eq_true rfl, Nat.le_of_ble_eq_true rfl⟩) (fun H locs w => ?_)
  have w : WD G _ (w_X6 G ad I A J) s H locs := w
  refine lv_if_ne (tgt := 13) hx hb dX6_firm_7 (by decide) (fun c4 => ?_) (fun c4 => ?_)
  · rw [if_neg c4] at h
    refine lv_aload_n hx hb dX6_firm_13 rfl (lv_at hl 0 rfl) ?_
    refine r_get C w 0 6 5 (.int (I 5)) ge_X6_0 rfl inX6 (by decide) tt_549 rfl dX6_firm_14 ?_
    refine lv_bipush (v := (24)) hx hb dX6_firm_17 (by decide) ?_
    refine lv_icmp_ne (tgt := 25) hx hb dX6_firm_19 (by decide) (fun c5 => ?_) (fun c5 => ?_)
    · rw [if_neg c5] at h
      refine lv_aload_n hx hb dX6_firm_25 rfl (lv_at hl 0 rfl) ?_
      refine r_get C w 0 6 4 (.ref (ad 4)) ge_X6_0 rfl inX6 (by decide) tt_548 rfl dX6_firm_26 ?_
      refine lv_aload_n hx hb dX6_firm_29 rfl (lv_at hl 0 rfl) ?_
      refine r_get C w 0 6 5 (.int (I 5)) ge_X6_0 rfl inX6 (by decide) tt_549 rfl dX6_firm_30 ?_
      refine lv_iload_n hx hb dX6_firm_33 rfl (lv_at hl 1 rfl) ?_
      obtain ⟨hin6, h⟩ := gdS h
      refine r_iast C w 4 (w_X6 G ad I (aS A 4 (I 5).toNatClampNeg a1) J) ge_X6_4 hin6 st_X6_4 dX6_firm_34 (fun H locs w => ?_)
      refine lv_aload_n hx hb dX6_firm_35 rfl (lv_at hl 0 rfl) ?_
      refine lv_dup hx hb dX6_firm_36 rfl ?_
      refine r_get C w 0 6 5 (.int (I 5)) ge_X6_0 rfl inX6 (by decide) tt_549 rfl dX6_firm_37 ?_
      refine lv_iconst (v := 1) hx hb dX6_firm_40 (by decide) ?_
      refine lv_iadd hx hb dX6_firm_41 ?_
      refine r_put C w 0 6 5 (w_X6 G ad (upd I 5 ((I 5) + 1)) (aS A 4 (I 5).toNatClampNeg a1) J) tyX6_ok nmX6 ge_X6_0 rfl inX6 (by decide) tt_549 rfl rfl rfl (Nat.le_of_ble_eq_true rfl) st_X6_0_5 dX6_firm_42 (fun H locs w => ?_)
      refine lv_aload_n hx hb dX6_firm_45 rfl (lv_at hl 0 rfl) ?_
      refine r_get C w 0 6 5 (.int ((upd I 5 ((I 5) + 1)) 5)) ge_X6_0 rfl inX6 (by decide) tt_549 rfl dX6_firm_46 ?_
      refine lv_iconst (v := 1) hx hb dX6_firm_49 (by decide) ?_
      refine lv_isub hx hb dX6_firm_50 ?_
      cases h
      exact ret_I C w rfl rfl dX6_firm_51
    · rw [if_pos c5] at h
      refine lv_bipush (v := (-3)) hx hb dX6_firm_22 (by decide) ?_
      cases h
      exact ret_I C w rfl rfl dX6_firm_24
  · rw [if_pos c4] at h
    refine lv_bipush (v := (-2)) hx hb dX6_firm_10 (by decide) ?_
    cases h
    exact ret_I C w rfl rfl dX6_firm_12
set_option maxHeartbeats 4000000 in
set_option maxRecDepth 100000 in
theorem c_X6_object (l : Launch) (G : GG) (ad : Nat → Nat) (sz : Nat) (I : Nat → Int32) (A : Nat → Nat → Int32) (J : Nat → Nat → Int64) (a1 : Int32) (r : Int32) (I' : Nat → Int32) (A' : Nat → Nat → Int32) (J' : Nat → Nat → Int64) (h : f_X6_object I A J a1 = some (r, I', A', J')) : CtI l yX6_object cX6_object 2 (some .int) { frames := 1, cells := 0, slots := 0, locals := 22 } G [.ref (ad 0), .int a1] (w_X6 G ad I A J) (w_X6 G ad I' A' J') sz r := by
  refine ct_of (by decide) (Nat.le_of_ble_eq_true rfl) (fun p e s m below meth c ls C w hsz hl => ?_)
  have hx := C.1
  have hb := C.2.1
  have hl : lv_has ls 2 [(0, .ref (ad 0)), (1, .int a1)] := hl
  unfold f_X6_object at h
  refine lv_iload_n hx hb dX6_object_0 rfl (lv_at hl 1 rfl) ?_
  refine lv_iconst (v := 0) hx hb dX6_object_1 (by decide) ?_
  refine lv_aload_n hx hb dX6_object_2 rfl (lv_at hl 0 rfl) ?_
  refine r_get C w 0 6 5 (.int (I 5)) ge_X6_0 rfl inX6 (by decide) tt_549 rfl dX6_object_3 ?_
  refine lv_iconst (v := 1) hx hb dX6_object_6 (by decide) ?_
  refine lv_isub hx hb dX6_object_7 ?_
  obtain ⟨x3, hx3, h⟩ := bdS h
  have w0 : WD G _ ([] ++ ([] ++ (w_X6 G ad I A J))) s _ _ := w
  refine cl_i (wc' := []) w0 (run_S (As := [.int a1, .int 0, .int ((I 5) - 1)]) (rest := []) C w0 (c_X6_isIn l G  _ a1 0 ((I 5) - 1) x3 hx3) mt_X6_isIn tt_630 rfl rfl ⟨Nat.le_of_ble_eq_true rfl, Nat.le_of_ble_eq_true rfl⟩ hl.1 (Nat.le_of_ble_eq_true rfl) dX6_object_8 ⟨Nat.le_of_ble_eq_true rfl, Nat.le_of_ble_eq_true rfl⟩) (fun H locs w => ?_)
  have w : WD G _ (w_X6 G ad I A J) s H locs := w
  refine lv_if_ne (tgt := 17) hx hb dX6_object_11 (by decide) (fun c4 => ?_) (fun c4 => ?_)
  · rw [if_neg c4] at h
    refine lv_aload_n hx hb dX6_object_17 rfl (lv_at hl 0 rfl) ?_
    refine r_get C w 0 6 7 (.int (I 7)) ge_X6_0 rfl inX6 (by decide) tt_551 rfl dX6_object_18 ?_
    refine lv_bipush (v := (48)) hx hb dX6_object_21 (by decide) ?_
    refine lv_icmp_ne (tgt := 29) hx hb dX6_object_23 (by decide) (fun c5 => ?_) (fun c5 => ?_)
    · rw [if_neg c5] at h
      refine lv_aload_n hx hb dX6_object_29 rfl (lv_at hl 0 rfl) ?_
      refine r_get C w 0 6 6 (.ref (ad 5)) ge_X6_0 rfl inX6 (by decide) tt_550 rfl dX6_object_30 ?_
      refine lv_aload_n hx hb dX6_object_33 rfl (lv_at hl 0 rfl) ?_
      refine r_get C w 0 6 7 (.int (I 7)) ge_X6_0 rfl inX6 (by decide) tt_551 rfl dX6_object_34 ?_
      refine lv_iload_n hx hb dX6_object_37 rfl (lv_at hl 1 rfl) ?_
      obtain ⟨hin6, h⟩ := gdS h
      refine r_iast C w 5 (w_X6 G ad I (aS A 6 (I 7).toNatClampNeg a1) J) ge_X6_5 hin6 st_X6_5 dX6_object_38 (fun H locs w => ?_)
      refine lv_aload_n hx hb dX6_object_39 rfl (lv_at hl 0 rfl) ?_
      refine lv_dup hx hb dX6_object_40 rfl ?_
      refine r_get C w 0 6 7 (.int (I 7)) ge_X6_0 rfl inX6 (by decide) tt_551 rfl dX6_object_41 ?_
      refine lv_iconst (v := 1) hx hb dX6_object_44 (by decide) ?_
      refine lv_iadd hx hb dX6_object_45 ?_
      refine r_put C w 0 6 7 (w_X6 G ad (upd I 7 ((I 7) + 1)) (aS A 6 (I 7).toNatClampNeg a1) J) tyX6_ok nmX6 ge_X6_0 rfl inX6 (by decide) tt_551 rfl rfl rfl (Nat.le_of_ble_eq_true rfl) st_X6_0_7 dX6_object_46 (fun H locs w => ?_)
      refine lv_aload_n hx hb dX6_object_49 rfl (lv_at hl 0 rfl) ?_
      refine r_get C w 0 6 7 (.int ((upd I 7 ((I 7) + 1)) 7)) ge_X6_0 rfl inX6 (by decide) tt_551 rfl dX6_object_50 ?_
      refine lv_iconst (v := 1) hx hb dX6_object_53 (by decide) ?_
      refine lv_isub hx hb dX6_object_54 ?_
      cases h
      exact ret_I C w rfl rfl dX6_object_55
    · rw [if_pos c5] at h
      refine lv_bipush (v := (-3)) hx hb dX6_object_26 (by decide) ?_
      cases h
      exact ret_I C w rfl rfl dX6_object_28
  · rw [if_pos c4] at h
    refine lv_bipush (v := (-2)) hx hb dX6_object_14 (by decide) ?_
    cases h
    exact ret_I C w rfl rfl dX6_object_16
set_option maxHeartbeats 4000000 in
set_option maxRecDepth 100000 in
theorem w_X6_linkAt_20 {p : Program} {l : Launch} {e : Env} {s : State} {m : MethodId} {args : Array Value} {below : List Frame} {meth : Method} {c : Code} {FA : Nat → Prop} {G : GG} {ad : Nat → Nat} {r : Int64} {I : Nat → Int32} {A : Nat → Nat → Int32} {J : Nat → Nat → Int64} (C : CX p m meth c s args yX6_linkAt cX6_linkAt 3 (some .long)) (N : Nat) : ∀ (v2 : Int32) (s0 : Int64), f_X6_linkAt_20 N I A J v2 s0 = some r → ∀ (H : Heap) (locs : List Loc), WD G FA (w_X6 G ad I A J) s H locs → ∀ ls : Array Slot, lv_has ls 3 [(0, .ref (ad 0)), (2, .int v2)] → W p l e { frames := 1, cells := 0, slots := 0, locals := 29 } s m args below meth c H locs 0 0 (EnL below G FA args s (w_X6 G ad I A J) r) (F0 m 20 ls [.long s0]) := by
  have hx := C.1
  have hb := C.2.1
  intro v2 s0 h H locs w ls hl
  unfold f_X6_linkAt_20 at h
  refine lv_aload_n hx hb dX6_linkAt_20 rfl (lv_at hl 0 rfl) ?_
  refine r_get C w 0 6 23 (.ref (ad 18)) ge_X6_0 rfl inX6 (by decide) tt_567 rfl dX6_linkAt_21 ?_
  refine lv_iload_n hx hb dX6_linkAt_24 rfl (lv_at hl 1 rfl) ?_
  obtain ⟨hin8, h⟩ := gdS h
  refine r_iald C w 18 (A 23 v2.toNatClampNeg) ge_X6_18 rfl hin8 dX6_linkAt_25 ?_
  refine lv_aload_n hx hb dX6_linkAt_26 rfl (lv_at hl 0 rfl) ?_
  refine r_get C w 0 6 23 (.ref (ad 18)) ge_X6_0 rfl inX6 (by decide) tt_567 rfl dX6_linkAt_27 ?_
  refine lv_iload_n hx hb dX6_linkAt_30 rfl (lv_at hl 1 rfl) ?_
  refine lv_iconst (v := 1) hx hb dX6_linkAt_31 (by decide) ?_
  refine lv_iadd hx hb dX6_linkAt_32 ?_
  obtain ⟨hin9, h⟩ := gdS h
  refine r_iald C w 18 (A 23 (v2 + 1).toNatClampNeg) ge_X6_18 rfl hin9 dX6_linkAt_33 ?_
  refine lv_aload_n hx hb dX6_linkAt_34 rfl (lv_at hl 0 rfl) ?_
  refine r_get C w 0 6 23 (.ref (ad 18)) ge_X6_0 rfl inX6 (by decide) tt_567 rfl dX6_linkAt_35 ?_
  refine lv_iload_n hx hb dX6_linkAt_38 rfl (lv_at hl 1 rfl) ?_
  refine lv_iconst (v := 2) hx hb dX6_linkAt_39 (by decide) ?_
  refine lv_iadd hx hb dX6_linkAt_40 ?_
  obtain ⟨hin10, h⟩ := gdS h
  refine r_iald C w 18 (A 23 (v2 + 2).toNatClampNeg) ge_X6_18 rfl hin10 dX6_linkAt_41 ?_
  refine lv_aload_n hx hb dX6_linkAt_42 rfl (lv_at hl 0 rfl) ?_
  refine r_get C w 0 6 23 (.ref (ad 18)) ge_X6_0 rfl inX6 (by decide) tt_567 rfl dX6_linkAt_43 ?_
  refine lv_iload_n hx hb dX6_linkAt_46 rfl (lv_at hl 1 rfl) ?_
  refine lv_iconst (v := 3) hx hb dX6_linkAt_47 (by decide) ?_
  refine lv_iadd hx hb dX6_linkAt_48 ?_
  obtain ⟨hin11, h⟩ := gdS h
  refine r_iald C w 18 (A 23 (v2 + 3).toNatClampNeg) ge_X6_18 rfl hin11 dX6_linkAt_49 ?_
  refine lv_aload_n hx hb dX6_linkAt_50 rfl (lv_at hl 0 rfl) ?_
  refine r_get C w 0 6 23 (.ref (ad 18)) ge_X6_0 rfl inX6 (by decide) tt_567 rfl dX6_linkAt_51 ?_
  refine lv_iload_n hx hb dX6_linkAt_54 rfl (lv_at hl 1 rfl) ?_
  refine lv_iconst (v := 4) hx hb dX6_linkAt_55 (by decide) ?_
  refine lv_iadd hx hb dX6_linkAt_56 ?_
  obtain ⟨hin12, h⟩ := gdS h
  refine r_iald C w 18 (A 23 (v2 + 4).toNatClampNeg) ge_X6_18 rfl hin12 dX6_linkAt_57 ?_
  obtain ⟨x13, hx13, h⟩ := bdS h
  have w0 : WD G _ ([] ++ ([] ++ (w_X6 G ad I A J))) s _ _ := w
  refine cl_l (wc' := []) w0 (run_S (As := [.long s0, .int (A 23 v2.toNatClampNeg), .int (A 23 (v2 + 1).toNatClampNeg), .int (A 23 (v2 + 2).toNatClampNeg), .int (A 23 (v2 + 3).toNatClampNeg), .int (A 23 (v2 + 4).toNatClampNeg)]) (rest := []) C w0 (c_X6_linkOf l G  _ N s0 (A 23 v2.toNatClampNeg) (A 23 (v2 + 1).toNatClampNeg) (A 23 (v2 + 2).toNatClampNeg) (A 23 (v2 + 3).toNatClampNeg) (A 23 (v2 + 4).toNatClampNeg) x13 hx13) mt_X6_linkOf tt_677 rfl rfl ⟨Nat.le_of_ble_eq_true rfl, Nat.le_of_ble_eq_true rfl⟩ hl.1 (Nat.le_of_ble_eq_true rfl) dX6_linkAt_58 ⟨Nat.le_of_ble_eq_true rfl, Nat.le_of_ble_eq_true rfl⟩) (fun H locs w => ?_)
  have w : WD G _ (w_X6 G ad I A J) s H locs := w
  cases h
  exact ret_L C w rfl rfl dX6_linkAt_61
set_option maxHeartbeats 4000000 in
set_option maxRecDepth 100000 in
theorem c_X6_linkAt (l : Launch) (G : GG) (ad : Nat → Nat) (sz : Nat) (N : Nat) (I : Nat → Int32) (A : Nat → Nat → Int32) (J : Nat → Nat → Int64) (a1 : Int32) (r : Int64) (h : f_X6_linkAt N I A J a1 = some r) : CtL l yX6_linkAt cX6_linkAt 3 (some .long) { frames := 1, cells := 0, slots := 0, locals := 29 } G [.ref (ad 0), .int a1] (w_X6 G ad I A J) (w_X6 G ad I A J) sz r := by
  refine ct_of (by decide) (Nat.le_of_ble_eq_true rfl) (fun p e s m below meth c ls C w hsz hl => ?_)
  have hx := C.1
  have hb := C.2.1
  have hl : lv_has ls 3 [(0, .ref (ad 0)), (1, .int a1)] := hl
  unfold f_X6_linkAt at h
  refine lv_iconst (v := 5) hx hb dX6_linkAt_0 (by decide) ?_
  refine lv_iload_n hx hb dX6_linkAt_1 rfl (lv_at hl 1 rfl) ?_
  refine lv_imul hx hb dX6_linkAt_2 ?_
  refine lv_istore_n (lv' := [(2, .int (5 * a1)), (0, .ref (ad 0)), (1, .int a1)]) hx hb dX6_linkAt_3 rfl hl (by decide) rfl (fun ls hl => ?_)
  refine lv_iload_n hx hb dX6_linkAt_4 rfl (lv_at hl 2 rfl) ?_
  refine lv_if_ne (tgt := 12) hx hb dX6_linkAt_5 (by decide) (fun c14 => ?_) (fun c14 => ?_)
  · rw [if_neg c14] at h
    refine lv_aload_n hx hb dX6_linkAt_12 rfl (lv_at hl 1 rfl) ?_
    refine r_get C w 0 6 24 (.ref (ad 19)) ge_X6_0 rfl inX6 (by decide) tt_568 rfl dX6_linkAt_13 ?_
    refine lv_iload_n hx hb dX6_linkAt_16 rfl (lv_at hl 2 rfl) ?_
    refine lv_iconst (v := 1) hx hb dX6_linkAt_17 (by decide) ?_
    refine lv_isub hx hb dX6_linkAt_18 ?_
    obtain ⟨hin15, h⟩ := gdS h
    refine r_lald C w 19 (J 24 (a1 - 1).toNatClampNeg) ge_X6_19 rfl hin15 dX6_linkAt_19 ?_
    exact w_X6_linkAt_20 C N (5 * a1) (J 24 (a1 - 1).toNatClampNeg) h _ _ w _ (lv_sub hl [1, 0] rfl)
  · rw [if_pos c14] at h
    refine lv_lconst (v := 1) hx hb dX6_linkAt_8 (by decide) ?_
    refine lv_goto (tgt := 20) hx hb dX6_linkAt_9 (by decide) ?_
    exact w_X6_linkAt_20 C N (5 * a1) 1 h _ _ w _ (lv_sub hl [1, 0] rfl)
set_option maxHeartbeats 4000000 in
set_option maxRecDepth 100000 in
theorem c_X6_enter (l : Launch) (G : GG) (ad : Nat → Nat) (sz : Nat) (N : Nat) (I : Nat → Int32) (A : Nat → Nat → Int32) (J : Nat → Nat → Int64) (a1 : Int32) (a2 : Int32) (a3 : Int32) (a4 : Int32) (I' : Nat → Int32) (A' : Nat → Nat → Int32) (J' : Nat → Nat → Int64) (h : f_X6_enter N I A J a1 a2 a3 a4 = some (I', A', J')) : CtV l yX6_enter cX6_enter 6 none { frames := 2, cells := 0, slots := 0, locals := 51 } G [.ref (ad 0), .int a1, .int a2, .int a3, .int a4] (w_X6 G ad I A J) (w_X6 G ad I' A' J') sz := by
  refine ct_of (by decide) (Nat.le_of_ble_eq_true rfl) (fun p e s m below meth c ls C w hsz hl => ?_)
  have hx := C.1
  have hb := C.2.1
  have hl : lv_has ls 6 [(0, .ref (ad 0)), (1, .int a1), (2, .int a2), (3, .int a3), (4, .int a4)] := hl
  unfold f_X6_enter at h
  refine lv_iconst (v := 5) hx hb dX6_enter_0 (by decide) ?_
  refine lv_aload_n hx hb dX6_enter_1 rfl (lv_at hl 0 rfl) ?_
  refine r_get C w 0 6 25 (.int (I 25)) ge_X6_0 rfl inX6 (by decide) tt_569 rfl dX6_enter_2 ?_
  refine lv_imul hx hb dX6_enter_5 ?_
  refine lv_istore (lv' := [(5, .int (5 * (I 25))), (0, .ref (ad 0)), (1, .int a1), (2, .int a2), (3, .int a3), (4, .int a4)]) hx hb dX6_enter_6 hl (by decide) rfl (fun ls hl => ?_)
  refine lv_aload_n hx hb dX6_enter_8 rfl (lv_at hl 1 rfl) ?_
  refine r_get C w 0 6 23 (.ref (ad 18)) ge_X6_0 rfl inX6 (by decide) tt_567 rfl dX6_enter_9 ?_
  refine lv_iload hx hb dX6_enter_12 (lv_at hl 0 rfl) ?_
  refine lv_iload_n hx hb dX6_enter_14 rfl (lv_at hl 2 rfl) ?_
  obtain ⟨hin8, h⟩ := gdS h
  refine r_iast C w 18 (w_X6 G ad I (aS A 23 (5 * (I 25)).toNatClampNeg a1) J) ge_X6_18 hin8 st_X6_18 dX6_enter_15 (fun H locs w => ?_)
  refine lv_aload_n hx hb dX6_enter_16 rfl (lv_at hl 1 rfl) ?_
  refine r_get C w 0 6 23 (.ref (ad 18)) ge_X6_0 rfl inX6 (by decide) tt_567 rfl dX6_enter_17 ?_
  refine lv_iload hx hb dX6_enter_20 (lv_at hl 0 rfl) ?_
  refine lv_iconst (v := 1) hx hb dX6_enter_22 (by decide) ?_
  refine lv_iadd hx hb dX6_enter_23 ?_
  refine lv_iload_n hx hb dX6_enter_24 rfl (lv_at hl 3 rfl) ?_
  obtain ⟨hin9, h⟩ := gdS h
  refine r_iast C w 18 (w_X6 G ad I (aS (aS A 23 (5 * (I 25)).toNatClampNeg a1) 23 ((5 * (I 25)) + 1).toNatClampNeg a2) J) ge_X6_18 hin9 st_X6_18 dX6_enter_25 (fun H locs w => ?_)
  refine lv_aload_n hx hb dX6_enter_26 rfl (lv_at hl 1 rfl) ?_
  refine r_get C w 0 6 23 (.ref (ad 18)) ge_X6_0 rfl inX6 (by decide) tt_567 rfl dX6_enter_27 ?_
  refine lv_iload hx hb dX6_enter_30 (lv_at hl 0 rfl) ?_
  refine lv_iconst (v := 2) hx hb dX6_enter_32 (by decide) ?_
  refine lv_iadd hx hb dX6_enter_33 ?_
  refine lv_iload_n hx hb dX6_enter_34 rfl (lv_at hl 4 rfl) ?_
  obtain ⟨hin10, h⟩ := gdS h
  refine r_iast C w 18 (w_X6 G ad I (aS (aS (aS A 23 (5 * (I 25)).toNatClampNeg a1) 23 ((5 * (I 25)) + 1).toNatClampNeg a2) 23 ((5 * (I 25)) + 2).toNatClampNeg a3) J) ge_X6_18 hin10 st_X6_18 dX6_enter_35 (fun H locs w => ?_)
  refine lv_aload_n hx hb dX6_enter_36 rfl (lv_at hl 1 rfl) ?_
  refine r_get C w 0 6 23 (.ref (ad 18)) ge_X6_0 rfl inX6 (by decide) tt_567 rfl dX6_enter_37 ?_
  refine lv_iload hx hb dX6_enter_40 (lv_at hl 0 rfl) ?_
  refine lv_iconst (v := 3) hx hb dX6_enter_42 (by decide) ?_
  refine lv_iadd hx hb dX6_enter_43 ?_
  refine lv_iload hx hb dX6_enter_44 (lv_at hl 5 rfl) ?_
  obtain ⟨hin11, h⟩ := gdS h
  refine r_iast C w 18 (w_X6 G ad I (aS (aS (aS (aS A 23 (5 * (I 25)).toNatClampNeg a1) 23 ((5 * (I 25)) + 1).toNatClampNeg a2) 23 ((5 * (I 25)) + 2).toNatClampNeg a3) 23 ((5 * (I 25)) + 3).toNatClampNeg a4) J) ge_X6_18 hin11 st_X6_18 dX6_enter_46 (fun H locs w => ?_)
  refine lv_aload_n hx hb dX6_enter_47 rfl (lv_at hl 1 rfl) ?_
  refine r_get C w 0 6 23 (.ref (ad 18)) ge_X6_0 rfl inX6 (by decide) tt_567 rfl dX6_enter_48 ?_
  refine lv_iload hx hb dX6_enter_51 (lv_at hl 0 rfl) ?_
  refine lv_iconst (v := 4) hx hb dX6_enter_53 (by decide) ?_
  refine lv_iadd hx hb dX6_enter_54 ?_
  refine lv_aload_n hx hb dX6_enter_55 rfl (lv_at hl 1 rfl) ?_
  refine r_get C w 0 6 0 (.int (I 0)) ge_X6_0 rfl inX6 (by decide) tt_544 rfl dX6_enter_56 ?_
  obtain ⟨hin12, h⟩ := gdS h
  refine r_iast C w 18 (w_X6 G ad I (aS (aS (aS (aS (aS A 23 (5 * (I 25)).toNatClampNeg a1) 23 ((5 * (I 25)) + 1).toNatClampNeg a2) 23 ((5 * (I 25)) + 2).toNatClampNeg a3) 23 ((5 * (I 25)) + 3).toNatClampNeg a4) 23 ((5 * (I 25)) + 4).toNatClampNeg (I 0)) J) ge_X6_18 hin12 st_X6_18 dX6_enter_59 (fun H locs w => ?_)
  refine lv_aload_n hx hb dX6_enter_60 rfl (lv_at hl 1 rfl) ?_
  refine r_get C w 0 6 24 (.ref (ad 19)) ge_X6_0 rfl inX6 (by decide) tt_568 rfl dX6_enter_61 ?_
  refine lv_aload_n hx hb dX6_enter_64 rfl (lv_at hl 1 rfl) ?_
  refine r_get C w 0 6 25 (.int (I 25)) ge_X6_0 rfl inX6 (by decide) tt_569 rfl dX6_enter_65 ?_
  refine lv_aload_n hx hb dX6_enter_68 rfl (lv_at hl 1 rfl) ?_
  refine lv_aload_n hx hb dX6_enter_69 rfl (lv_at hl 1 rfl) ?_
  refine r_get C w 0 6 25 (.int (I 25)) ge_X6_0 rfl inX6 (by decide) tt_569 rfl dX6_enter_70 ?_
  obtain ⟨x13, hx13, h⟩ := bdS h
  have w0 := w.z
  refine cl_l (wc' := (w_X6 G ad I (aS (aS (aS (aS (aS A 23 (5 * (I 25)).toNatClampNeg a1) 23 ((5 * (I 25)) + 1).toNatClampNeg a2) 23 ((5 * (I 25)) + 2).toNatClampNeg a3) 23 ((5 * (I 25)) + 3).toNatClampNeg a4) 23 ((5 * (I 25)) + 4).toNatClampNeg (I 0)) J)) w0 (run_V (As := [.int (I 25)]) (rest := [.int (I 25), .ref (ad 19)]) C w0 (c_X6_linkAt l G ad  _ N I (aS (aS (aS (aS (aS A 23 (5 * (I 25)).toNatClampNeg a1) 23 ((5 * (I 25)) + 1).toNatClampNeg a2) 23 ((5 * (I 25)) + 2).toNatClampNeg a3) 23 ((5 * (I 25)) + 3).toNatClampNeg a4) 23 ((5 * (I 25)) + 4).toNatClampNeg (I 0)) J (I 25) x13 hx13) mt_X6_linkAt tt_673 6 rfl rfl rfl rfl ⟨Nat.le_of_ble_eq_true rfl, Nat.le_of_ble_eq_true rfl⟩ hl.1 (Nat.le_of_ble_eq_true rfl) dX6_enter_73 ⟨Nat.le_of_ble_eq_true rfl, Nat.le_of_ble_eq_true rfl⟩) (fun H locs w => ?_)
  have w := w.uz
  obtain ⟨hin14, h⟩ := gdS h
  refine r_last C w 19 (w_X6 G ad I (aS (aS (aS (aS (aS A 23 (5 * (I 25)).toNatClampNeg a1) 23 ((5 * (I 25)) + 1).toNatClampNeg a2) 23 ((5 * (I 25)) + 2).toNatClampNeg a3) 23 ((5 * (I 25)) + 3).toNatClampNeg a4) 23 ((5 * (I 25)) + 4).toNatClampNeg (I 0)) (jS J 24 (I 25).toNatClampNeg x13)) ge_X6_19 hin14 st_X6_19 dX6_enter_76 (fun H locs w => ?_)
  refine lv_aload_n hx hb dX6_enter_77 rfl (lv_at hl 1 rfl) ?_
  refine lv_dup hx hb dX6_enter_78 rfl ?_
  refine r_get C w 0 6 25 (.int (I 25)) ge_X6_0 rfl inX6 (by decide) tt_569 rfl dX6_enter_79 ?_
  refine lv_iconst (v := 1) hx hb dX6_enter_82 (by decide) ?_
  refine lv_iadd hx hb dX6_enter_83 ?_
  refine r_put C w 0 6 25 (w_X6 G ad (upd I 25 ((I 25) + 1)) (aS (aS (aS (aS (aS A 23 (5 * (I 25)).toNatClampNeg a1) 23 ((5 * (I 25)) + 1).toNatClampNeg a2) 23 ((5 * (I 25)) + 2).toNatClampNeg a3) 23 ((5 * (I 25)) + 3).toNatClampNeg a4) 23 ((5 * (I 25)) + 4).toNatClampNeg (I 0)) (jS J 24 (I 25).toNatClampNeg x13)) tyX6_ok nmX6 ge_X6_0 rfl inX6 (by decide) tt_569 rfl rfl rfl (Nat.le_of_ble_eq_true rfl) st_X6_0_25 dX6_enter_84 (fun H locs w => ?_)
  cases h
  exact ret_V C w rfl dX6_enter_87
set_option maxHeartbeats 4000000 in
set_option maxRecDepth 100000 in
theorem c_X6_isOpen (l : Launch) (G : GG) (ad : Nat → Nat) (sz : Nat) (I : Nat → Int32) (A : Nat → Nat → Int32) (J : Nat → Nat → Int64) (a1 : Int32) (r : Int32) (h : f_X6_isOpen I A J a1 = some r) : CtI l yX6_isOpen cX6_isOpen 2 (some .boolean) { frames := 0, cells := 0, slots := 0, locals := 0 } G [.ref (ad 0), .int a1] (w_X6 G ad I A J) (w_X6 G ad I A J) sz r := by
  refine ct_of (by decide) (Nat.le_of_ble_eq_true rfl) (fun p e s m below meth c ls C w hsz hl => ?_)
  have hx := C.1
  have hb := C.2.1
  have hl : lv_has ls 2 [(0, .ref (ad 0)), (1, .int a1)] := hl
  unfold f_X6_isOpen at h
  refine lv_aload_n hx hb dX6_isOpen_0 rfl (lv_at hl 0 rfl) ?_
  refine r_get C w 0 6 4 (.ref (ad 4)) ge_X6_0 rfl inX6 (by decide) tt_548 rfl dX6_isOpen_1 ?_
  refine lv_iload_n hx hb dX6_isOpen_4 rfl (lv_at hl 1 rfl) ?_
  obtain ⟨hin2, h⟩ := gdS h
  refine r_iald C w 4 (A 4 a1.toNatClampNeg) ge_X6_4 rfl hin2 dX6_isOpen_5 ?_
  refine lv_if_ge (tgt := 13) hx hb dX6_isOpen_6 (by decide) (fun c3 => ?_) (fun c3 => ?_)
  · rw [if_pos c3] at h
    refine lv_iconst (v := 0) hx hb dX6_isOpen_13 (by decide) ?_
    cases h
    exact ret_Z C w (Or.inl rfl) rfl rfl dX6_isOpen_14
  · rw [if_neg c3] at h
    refine lv_iconst (v := 1) hx hb dX6_isOpen_9 (by decide) ?_
    refine lv_goto (tgt := 14) hx hb dX6_isOpen_10 (by decide) ?_
    cases h
    exact ret_Z C w (Or.inr rfl) rfl rfl dX6_isOpen_14
set_option maxHeartbeats 4000000 in
set_option maxRecDepth 100000 in
theorem w_X6_isWalled_26 {p : Program} {l : Launch} {e : Env} {s : State} {m : MethodId} {args : Array Value} {below : List Frame} {meth : Method} {c : Code} {FA : Nat → Prop} {G : GG} {ad : Nat → Nat} {r : Int32} {I : Nat → Int32} {A : Nat → Nat → Int32} {J : Nat → Nat → Int64} (C : CX p m meth c s args yX6_isWalled cX6_isWalled 4 (some .boolean)) (N : Nat) : ∀ n : Nat, ∀ (v1 : Int32) (v2 : Int32) (v3 : Int32), f_X6_isWalled_26 N I A J n v1 v2 v3 = some r → ∀ (H : Heap) (locs : List Loc), WD G FA (w_X6 G ad I A J) s H locs → ∀ ls : Array Slot, lv_has ls 4 [(0, .ref (ad 0)), (1, .int v1), (2, .int v2), (3, .int v3)] → W p l e { frames := 1, cells := 0, slots := 0, locals := 21 } s m args below meth c H locs 0 0 (EnI below G FA args s (w_X6 G ad I A J) r) (F0 m 26 ls []) := by
  have hx := C.1
  have hb := C.2.1
  intro n
  induction n with
  | zero =>
    intro v1 v2 v3 h
    cases h
  | succ n ih =>
    intro v1 v2 v3 h H locs w ls hl
    rw [f_X6_isWalled_26] at h
    refine lv_iload_n hx hb dX6_isWalled_26 rfl (lv_at hl 3 rfl) ?_
    refine lv_aload_n hx hb dX6_isWalled_27 rfl (lv_at hl 0 rfl) ?_
    refine r_get C w 0 6 5 (.int (I 5)) ge_X6_0 rfl inX6 (by decide) tt_549 rfl dX6_isWalled_28 ?_
    refine lv_icmp_ge (tgt := 71) hx hb dX6_isWalled_31 (by decide) (fun c6 => ?_) (fun c6 => ?_)
    · rw [if_pos c6] at h
      refine lv_iconst (v := 0) hx hb dX6_isWalled_71 (by decide) ?_
      cases h
      exact ret_Z C w (Or.inl rfl) rfl rfl dX6_isWalled_72
    · rw [if_neg c6] at h
      refine lv_aload_n hx hb dX6_isWalled_34 rfl (lv_at hl 0 rfl) ?_
      refine r_get C w 0 6 2 (.ref (ad 2)) ge_X6_0 rfl inX6 (by decide) tt_546 rfl dX6_isWalled_35 ?_
      refine lv_iload_n hx hb dX6_isWalled_38 rfl (lv_at hl 1 rfl) ?_
      obtain ⟨hin7, h⟩ := gdS h
      refine r_iald C w 2 (A 2 v1.toNatClampNeg) ge_X6_2 rfl hin7 dX6_isWalled_39 ?_
      refine lv_iload_n hx hb dX6_isWalled_40 rfl (lv_at hl 3 rfl) ?_
      refine lv_ishr hx hb dX6_isWalled_41 ?_
      refine lv_iconst (v := 1) hx hb dX6_isWalled_42 (by decide) ?_
      refine lv_iand hx hb dX6_isWalled_43 ?_
      refine lv_iconst (v := 1) hx hb dX6_isWalled_44 (by decide) ?_
      refine lv_icmp_ne (tgt := 65) hx hb dX6_isWalled_45 (by decide) (fun c8 => ?_) (fun c8 => ?_)
      · rw [if_neg c8] at h
        refine lv_iinc (v := v3 + 1) (lv' := [(3, .int (v3 + 1)), (0, .ref (ad 0)), (1, .int v1), (2, .int v2)]) hx hb dX6_isWalled_65 hl (k := 3) rfl rfl (by decide) rfl (fun ls hl => ?_)
        refine lv_goto (tgt := 26) hx hb dX6_isWalled_68 (by decide) ?_
        exact ih v1 v2 (v3 + 1) h _ _ w _ (lv_sub hl [1, 2, 3, 0] rfl)
      · rw [if_pos c8] at h
        refine lv_aload_n hx hb dX6_isWalled_48 rfl (lv_at hl 0 rfl) ?_
        refine r_get C w 0 6 4 (.ref (ad 4)) ge_X6_0 rfl inX6 (by decide) tt_548 rfl dX6_isWalled_49 ?_
        refine lv_iload_n hx hb dX6_isWalled_52 rfl (lv_at hl 3 rfl) ?_
        obtain ⟨hin9, h⟩ := gdS h
        refine r_iald C w 4 (A 4 v3.toNatClampNeg) ge_X6_4 rfl hin9 dX6_isWalled_53 ?_
        refine lv_aload_n hx hb dX6_isWalled_54 rfl (lv_at hl 0 rfl) ?_
        refine r_get C w 0 6 4 (.ref (ad 4)) ge_X6_0 rfl inX6 (by decide) tt_548 rfl dX6_isWalled_55 ?_
        refine lv_iload_n hx hb dX6_isWalled_58 rfl (lv_at hl 2 rfl) ?_
        obtain ⟨hin10, h⟩ := gdS h
        refine r_iald C w 4 (A 4 v2.toNatClampNeg) ge_X6_4 rfl hin10 dX6_isWalled_59 ?_
        refine lv_icmp_ne (tgt := 65) hx hb dX6_isWalled_60 (by decide) (fun c11 => ?_) (fun c11 => ?_)
        · rw [if_neg c11] at h
          refine lv_iinc (v := v3 + 1) (lv' := [(3, .int (v3 + 1)), (0, .ref (ad 0)), (1, .int v1), (2, .int v2)]) hx hb dX6_isWalled_65 hl (k := 3) rfl rfl (by decide) rfl (fun ls hl => ?_)
          refine lv_goto (tgt := 26) hx hb dX6_isWalled_68 (by decide) ?_
          exact ih v1 v2 (v3 + 1) h _ _ w _ (lv_sub hl [1, 2, 3, 0] rfl)
        · rw [if_pos c11] at h
          refine lv_iconst (v := 1) hx hb dX6_isWalled_63 (by decide) ?_
          cases h
          exact ret_Z C w (Or.inr rfl) rfl rfl dX6_isWalled_64
set_option maxHeartbeats 4000000 in
set_option maxRecDepth 100000 in
theorem c_X6_isWalled (l : Launch) (G : GG) (ad : Nat → Nat) (sz : Nat) (N : Nat) (I : Nat → Int32) (A : Nat → Nat → Int32) (J : Nat → Nat → Int64) (a1 : Int32) (a2 : Int32) (r : Int32) (h : f_X6_isWalled N I A J a1 a2 = some r) : CtI l yX6_isWalled cX6_isWalled 4 (some .boolean) { frames := 1, cells := 0, slots := 0, locals := 21 } G [.ref (ad 0), .int a1, .int a2] (w_X6 G ad I A J) (w_X6 G ad I A J) sz r := by
  refine ct_of (by decide) (Nat.le_of_ble_eq_true rfl) (fun p e s m below meth c ls C w hsz hl => ?_)
  have hx := C.1
  have hb := C.2.1
  have hl : lv_has ls 4 [(0, .ref (ad 0)), (1, .int a1), (2, .int a2)] := hl
  unfold f_X6_isWalled at h
  refine lv_aload_n hx hb dX6_isWalled_0 rfl (lv_at hl 0 rfl) ?_
  refine lv_iload_n hx hb dX6_isWalled_1 rfl (lv_at hl 2 rfl) ?_
  obtain ⟨x12, hx12, h⟩ := bdS h
  have w0 := w.z
  refine cl_i (wc' := (w_X6 G ad I A J)) w0 (run_V (As := [.int a2]) (rest := []) C w0 (c_X6_isOpen l G ad  _ I A J a2 x12 hx12) mt_X6_isOpen tt_661 6 rfl rfl rfl rfl ⟨Nat.le_of_ble_eq_true rfl, Nat.le_of_ble_eq_true rfl⟩ hl.1 (Nat.le_of_ble_eq_true rfl) dX6_isWalled_2 ⟨Nat.le_of_ble_eq_true rfl, Nat.le_of_ble_eq_true rfl⟩) (fun H locs w => ?_)
  have w := w.uz
  refine lv_if_ne (tgt := 22) hx hb dX6_isWalled_5 (by decide) (fun c13 => ?_) (fun c13 => ?_)
  · rw [if_neg c13] at h
    refine lv_iconst (v := 0) hx hb dX6_isWalled_22 (by decide) ?_
    cases h
    exact ret_Z C w (Or.inl rfl) rfl rfl dX6_isWalled_23
  · rw [if_pos c13] at h
    refine lv_aload_n hx hb dX6_isWalled_8 rfl (lv_at hl 0 rfl) ?_
    refine r_get C w 0 6 2 (.ref (ad 2)) ge_X6_0 rfl inX6 (by decide) tt_546 rfl dX6_isWalled_9 ?_
    refine lv_iload_n hx hb dX6_isWalled_12 rfl (lv_at hl 1 rfl) ?_
    obtain ⟨hin14, h⟩ := gdS h
    refine r_iald C w 2 (A 2 a1.toNatClampNeg) ge_X6_2 rfl hin14 dX6_isWalled_13 ?_
    refine lv_iload_n hx hb dX6_isWalled_14 rfl (lv_at hl 2 rfl) ?_
    refine lv_ishr hx hb dX6_isWalled_15 ?_
    refine lv_iconst (v := 1) hx hb dX6_isWalled_16 (by decide) ?_
    refine lv_iand hx hb dX6_isWalled_17 ?_
    refine lv_iconst (v := 1) hx hb dX6_isWalled_18 (by decide) ?_
    refine lv_icmp_ne (tgt := 24) hx hb dX6_isWalled_19 (by decide) (fun c15 => ?_) (fun c15 => ?_)
    · rw [if_neg c15] at h
      refine lv_iconst (v := 0) hx hb dX6_isWalled_24 (by decide) ?_
      refine lv_istore_n (lv' := [(3, .int 0), (0, .ref (ad 0)), (1, .int a1), (2, .int a2)]) hx hb dX6_isWalled_25 rfl hl (by decide) rfl (fun ls hl => ?_)
      exact w_X6_isWalled_26 C N N a1 a2 0 h _ _ w _ (lv_sub hl [1, 2, 3, 0] rfl)
    · rw [if_pos c15] at h
      refine lv_iconst (v := 0) hx hb dX6_isWalled_22 (by decide) ?_
      cases h
      exact ret_Z C w (Or.inl rfl) rfl rfl dX6_isWalled_23
set_option maxHeartbeats 4000000 in
set_option maxRecDepth 100000 in
theorem w_X6_hasGlass_2 {p : Program} {l : Launch} {e : Env} {s : State} {m : MethodId} {args : Array Value} {below : List Frame} {meth : Method} {c : Code} {FA : Nat → Prop} {G : GG} {ad : Nat → Nat} {r : Int32} {I : Nat → Int32} {A : Nat → Nat → Int32} {J : Nat → Nat → Int64} (C : CX p m meth c s args yX6_hasGlass cX6_hasGlass 4 (some .boolean)) (N : Nat) : ∀ n : Nat, ∀ (v1 : Int32) (v2 : Int32) (v3 : Int32), f_X6_hasGlass_2 N I A J n v1 v2 v3 = some r → ∀ (H : Heap) (locs : List Loc), WD G FA (w_X6 G ad I A J) s H locs → ∀ ls : Array Slot, lv_has ls 4 [(0, .ref (ad 0)), (1, .int v1), (2, .int v2), (3, .int v3)] → W p l e { frames := 0, cells := 0, slots := 0, locals := 0 } s m args below meth c H locs 0 0 (EnI below G FA args s (w_X6 G ad I A J) r) (F0 m 2 ls []) := by
  have hx := C.1
  have hb := C.2.1
  intro n
  induction n with
  | zero =>
    intro v1 v2 v3 h
    cases h
  | succ n ih =>
    intro v1 v2 v3 h H locs w ls hl
    rw [f_X6_hasGlass_2] at h
    refine lv_iload_n hx hb dX6_hasGlass_2 rfl (lv_at hl 3 rfl) ?_
    refine lv_aload_n hx hb dX6_hasGlass_3 rfl (lv_at hl 0 rfl) ?_
    refine r_get C w 0 6 12 (.int (I 12)) ge_X6_0 rfl inX6 (by decide) tt_556 rfl dX6_hasGlass_4 ?_
    refine lv_icmp_ge (tgt := 51) hx hb dX6_hasGlass_7 (by decide) (fun c4 => ?_) (fun c4 => ?_)
    · rw [if_pos c4] at h
      refine lv_iconst (v := 0) hx hb dX6_hasGlass_51 (by decide) ?_
      cases h
      exact ret_Z C w (Or.inl rfl) rfl rfl dX6_hasGlass_52
    · rw [if_neg c4] at h
      refine lv_aload_n hx hb dX6_hasGlass_10 rfl (lv_at hl 0 rfl) ?_
      refine r_get C w 0 6 8 (.ref (ad 6)) ge_X6_0 rfl inX6 (by decide) tt_552 rfl dX6_hasGlass_11 ?_
      refine lv_iload_n hx hb dX6_hasGlass_14 rfl (lv_at hl 3 rfl) ?_
      obtain ⟨hin5, h⟩ := gdS h
      refine r_iald C w 6 (A 8 v3.toNatClampNeg) ge_X6_6 rfl hin5 dX6_hasGlass_15 ?_
      refine lv_iload_n hx hb dX6_hasGlass_16 rfl (lv_at hl 1 rfl) ?_
      refine lv_icmp_ne (tgt := 45) hx hb dX6_hasGlass_17 (by decide) (fun c6 => ?_) (fun c6 => ?_)
      · rw [if_neg c6] at h
        refine lv_iinc (v := v3 + 1) (lv' := [(3, .int (v3 + 1)), (0, .ref (ad 0)), (1, .int v1), (2, .int v2)]) hx hb dX6_hasGlass_45 hl (k := 3) rfl rfl (by decide) rfl (fun ls hl => ?_)
        refine lv_goto (tgt := 2) hx hb dX6_hasGlass_48 (by decide) ?_
        exact ih v1 v2 (v3 + 1) h _ _ w _ (lv_sub hl [1, 2, 3, 0] rfl)
      · rw [if_pos c6] at h
        refine lv_aload_n hx hb dX6_hasGlass_20 rfl (lv_at hl 0 rfl) ?_
        refine r_get C w 0 6 9 (.ref (ad 7)) ge_X6_0 rfl inX6 (by decide) tt_553 rfl dX6_hasGlass_21 ?_
        refine lv_iload_n hx hb dX6_hasGlass_24 rfl (lv_at hl 3 rfl) ?_
        obtain ⟨hin7, h⟩ := gdS h
        refine r_iald C w 7 (A 9 v3.toNatClampNeg) ge_X6_7 rfl hin7 dX6_hasGlass_25 ?_
        refine lv_iload_n hx hb dX6_hasGlass_26 rfl (lv_at hl 2 rfl) ?_
        refine lv_icmp_ne (tgt := 45) hx hb dX6_hasGlass_27 (by decide) (fun c8 => ?_) (fun c8 => ?_)
        · rw [if_neg c8] at h
          refine lv_iinc (v := v3 + 1) (lv' := [(3, .int (v3 + 1)), (0, .ref (ad 0)), (1, .int v1), (2, .int v2)]) hx hb dX6_hasGlass_45 hl (k := 3) rfl rfl (by decide) rfl (fun ls hl => ?_)
          refine lv_goto (tgt := 2) hx hb dX6_hasGlass_48 (by decide) ?_
          exact ih v1 v2 (v3 + 1) h _ _ w _ (lv_sub hl [1, 2, 3, 0] rfl)
        · rw [if_pos c8] at h
          refine lv_aload_n hx hb dX6_hasGlass_30 rfl (lv_at hl 0 rfl) ?_
          refine r_get C w 0 6 0 (.int (I 0)) ge_X6_0 rfl inX6 (by decide) tt_544 rfl dX6_hasGlass_31 ?_
          refine lv_aload_n hx hb dX6_hasGlass_34 rfl (lv_at hl 0 rfl) ?_
          refine r_get C w 0 6 10 (.ref (ad 8)) ge_X6_0 rfl inX6 (by decide) tt_554 rfl dX6_hasGlass_35 ?_
          refine lv_iload_n hx hb dX6_hasGlass_38 rfl (lv_at hl 3 rfl) ?_
          obtain ⟨hin9, h⟩ := gdS h
          refine r_iald C w 8 (A 10 v3.toNatClampNeg) ge_X6_8 rfl hin9 dX6_hasGlass_39 ?_
          refine lv_icmp_ge (tgt := 45) hx hb dX6_hasGlass_40 (by decide) (fun c10 => ?_) (fun c10 => ?_)
          · rw [if_pos c10] at h
            refine lv_iinc (v := v3 + 1) (lv' := [(3, .int (v3 + 1)), (0, .ref (ad 0)), (1, .int v1), (2, .int v2)]) hx hb dX6_hasGlass_45 hl (k := 3) rfl rfl (by decide) rfl (fun ls hl => ?_)
            refine lv_goto (tgt := 2) hx hb dX6_hasGlass_48 (by decide) ?_
            exact ih v1 v2 (v3 + 1) h _ _ w _ (lv_sub hl [1, 2, 3, 0] rfl)
          · rw [if_neg c10] at h
            refine lv_iconst (v := 1) hx hb dX6_hasGlass_43 (by decide) ?_
            cases h
            exact ret_Z C w (Or.inr rfl) rfl rfl dX6_hasGlass_44
set_option maxHeartbeats 4000000 in
set_option maxRecDepth 100000 in
theorem c_X6_hasGlass (l : Launch) (G : GG) (ad : Nat → Nat) (sz : Nat) (N : Nat) (I : Nat → Int32) (A : Nat → Nat → Int32) (J : Nat → Nat → Int64) (a1 : Int32) (a2 : Int32) (r : Int32) (h : f_X6_hasGlass N I A J a1 a2 = some r) : CtI l yX6_hasGlass cX6_hasGlass 4 (some .boolean) { frames := 0, cells := 0, slots := 0, locals := 0 } G [.ref (ad 0), .int a1, .int a2] (w_X6 G ad I A J) (w_X6 G ad I A J) sz r := by
  refine ct_of (by decide) (Nat.le_of_ble_eq_true rfl) (fun p e s m below meth c ls C w hsz hl => ?_)
  have hx := C.1
  have hb := C.2.1
  have hl : lv_has ls 4 [(0, .ref (ad 0)), (1, .int a1), (2, .int a2)] := hl
  unfold f_X6_hasGlass at h
  refine lv_iconst (v := 0) hx hb dX6_hasGlass_0 (by decide) ?_
  refine lv_istore_n (lv' := [(3, .int 0), (0, .ref (ad 0)), (1, .int a1), (2, .int a2)]) hx hb dX6_hasGlass_1 rfl hl (by decide) rfl (fun ls hl => ?_)
  exact w_X6_hasGlass_2 C N N a1 a2 0 h _ _ w _ (lv_sub hl [1, 2, 3, 0] rfl)
set_option maxHeartbeats 4000000 in
set_option maxRecDepth 100000 in
theorem w_X6_access_216 {p : Program} {l : Launch} {e : Env} {s : State} {m : MethodId} {args : Array Value} {below : List Frame} {meth : Method} {c : Code} {FA : Nat → Prop} {G : GG} {ad : Nat → Nat} {r : Int32} {I' : Nat → Int32} {A' : Nat → Nat → Int32} {J' : Nat → Nat → Int64}  (C : CX p m meth c s args yX6_access cX6_access 9 (some .int)) (N : Nat) : ∀ (I : Nat → Int32) (A : Nat → Nat → Int32) (J : Nat → Nat → Int64) (v1 : Int32) (v2 : Int32) (v3 : Int32) (v8 : Int32), f_X6_access_216 N I A J v1 v2 v3 v8 = some (r, I', A', J') → ∀ (H : Heap) (locs : List Loc), WD G FA (w_X6 G ad I A J) s H locs → ∀ ls : Array Slot, lv_has ls 9 [(0, .ref (ad 0)), (1, .int v1), (2, .int v2), (3, .int v3), (8, .int v8)] → W p l e { frames := 3, cells := 0, slots := 0, locals := 76 } s m args below meth c H locs 0 0 (EnI below G FA args s (w_X6 G ad I' A' J') r) (F0 m 216 ls []) := by
  have hx := C.1
  have hb := C.2.1
  intro I A J v1 v2 v3 v8 h H locs w ls hl
  unfold f_X6_access_216 at h
  refine lv_aload_n hx hb dX6_access_216 rfl (lv_at hl 0 rfl) ?_
  refine lv_iload_n hx hb dX6_access_217 rfl (lv_at hl 3 rfl) ?_
  refine lv_iload_n hx hb dX6_access_218 rfl (lv_at hl 1 rfl) ?_
  refine lv_iload_n hx hb dX6_access_219 rfl (lv_at hl 2 rfl) ?_
  refine lv_iload hx hb dX6_access_220 (lv_at hl 4 rfl) ?_
  refine lv_if_eq (tgt := 229) hx hb dX6_access_222 (by decide) (fun c16 => ?_) (fun c16 => ?_)
  · rw [if_pos c16] at h
    refine lv_iconst (v := 0) hx hb dX6_access_229 (by decide) ?_
    obtain ⟨x17, hx17, h⟩ := bdS h
    have w0 := w.z
    refine cl_v (wc' := (w_X6 G ad x17.1 x17.2.1 x17.2.2)) w0 (run_V (As := [.int v3, .int v1, .int v2, .int 0]) (rest := []) C w0 (c_X6_enter l G ad  _ N I A J v3 v1 v2 0 x17.1 x17.2.1 x17.2.2 hx17) mt_X6_enter tt_669 6 rfl rfl rfl rfl ⟨Nat.le_of_ble_eq_true rfl, Nat.le_of_ble_eq_true rfl⟩ hl.1 (Nat.le_of_ble_eq_true rfl) dX6_access_230 ⟨Nat.le_of_ble_eq_true rfl, Nat.le_of_ble_eq_true rfl⟩) (fun H locs w => ?_)
    have w := w.uz
    refine lv_iload hx hb dX6_access_233 (lv_at hl 4 rfl) ?_
    refine lv_if_eq (tgt := 242) hx hb dX6_access_235 (by decide) (fun c18 => ?_) (fun c18 => ?_)
    · rw [if_pos c18] at h
      refine lv_iconst (v := 0) hx hb dX6_access_242 (by decide) ?_
      cases h
      exact ret_I C w rfl rfl dX6_access_243
    · rw [if_neg c18] at h
      refine lv_iconst (v := 1) hx hb dX6_access_238 (by decide) ?_
      refine lv_goto (tgt := 243) hx hb dX6_access_239 (by decide) ?_
      cases h
      exact ret_I C w rfl rfl dX6_access_243
  · rw [if_neg c16] at h
    refine lv_iconst (v := 1) hx hb dX6_access_225 (by decide) ?_
    refine lv_goto (tgt := 230) hx hb dX6_access_226 (by decide) ?_
    obtain ⟨x19, hx19, h⟩ := bdS h
    have w0 := w.z
    refine cl_v (wc' := (w_X6 G ad x19.1 x19.2.1 x19.2.2)) w0 (run_V (As := [.int v3, .int v1, .int v2, .int 1]) (rest := []) C w0 (c_X6_enter l G ad  _ N I A J v3 v1 v2 1 x19.1 x19.2.1 x19.2.2 hx19) mt_X6_enter tt_669 6 rfl rfl rfl rfl ⟨Nat.le_of_ble_eq_true rfl, Nat.le_of_ble_eq_true rfl⟩ hl.1 (Nat.le_of_ble_eq_true rfl) dX6_access_230 ⟨Nat.le_of_ble_eq_true rfl, Nat.le_of_ble_eq_true rfl⟩) (fun H locs w => ?_)
    have w := w.uz
    refine lv_iload hx hb dX6_access_233 (lv_at hl 4 rfl) ?_
    refine lv_if_eq (tgt := 242) hx hb dX6_access_235 (by decide) (fun c20 => ?_) (fun c20 => ?_)
    · rw [if_pos c20] at h
      refine lv_iconst (v := 0) hx hb dX6_access_242 (by decide) ?_
      cases h
      exact ret_I C w rfl rfl dX6_access_243
    · rw [if_neg c20] at h
      refine lv_iconst (v := 1) hx hb dX6_access_238 (by decide) ?_
      refine lv_goto (tgt := 243) hx hb dX6_access_239 (by decide) ?_
      cases h
      exact ret_I C w rfl rfl dX6_access_243
set_option maxHeartbeats 4000000 in
set_option maxRecDepth 100000 in
theorem w_X6_access_160 {p : Program} {l : Launch} {e : Env} {s : State} {m : MethodId} {args : Array Value} {below : List Frame} {meth : Method} {c : Code} {FA : Nat → Prop} {G : GG} {ad : Nat → Nat} {r : Int32} {I' : Nat → Int32} {A' : Nat → Nat → Int32} {J' : Nat → Nat → Int64}  (C : CX p m meth c s args yX6_access cX6_access 9 (some .int)) (N : Nat) : ∀ (I : Nat → Int32) (A : Nat → Nat → Int32) (J : Nat → Nat → Int64) (v1 : Int32) (v2 : Int32) (v3 : Int32) (v4 : Int32) (v8 : Int32), f_X6_access_160 N I A J v1 v2 v3 v4 v8 = some (r, I', A', J') → ∀ (H : Heap) (locs : List Loc), WD G FA (w_X6 G ad I A J) s H locs → ∀ ls : Array Slot, lv_has ls 9 [(0, .ref (ad 0)), (1, .int v1), (2, .int v2), (3, .int v3), (4, .int v4), (8, .int v8)] → W p l e { frames := 3, cells := 0, slots := 0, locals := 76 } s m args below meth c H locs 0 0 (EnI below G FA args s (w_X6 G ad I' A' J') r) (F0 m 160 ls []) := by
  have hx := C.1
  have hb := C.2.1
  intro I A J v1 v2 v3 v4 v8 h H locs w ls hl
  unfold f_X6_access_160 at h
  refine lv_aload_n hx hb dX6_access_160 rfl (lv_at hl 0 rfl) ?_
  refine r_get C w 0 6 25 (.int (I 25)) ge_X6_0 rfl inX6 (by decide) tt_569 rfl dX6_access_161 ?_
  refine lv_sipush (v := (240)) hx hb dX6_access_164 (by decide) ?_
  refine lv_icmp_ne (tgt := 173) hx hb dX6_access_167 (by decide) (fun c21 => ?_) (fun c21 => ?_)
  · rw [if_neg c21] at h
    refine lv_iload hx hb dX6_access_173 (lv_at hl 5 rfl) ?_
    refine lv_if_eq (tgt := 194) hx hb dX6_access_175 (by decide) (fun c22 => ?_) (fun c22 => ?_)
    · rw [if_pos c22] at h
      refine lv_aload_n hx hb dX6_access_194 rfl (lv_at hl 0 rfl) ?_
      refine lv_iload hx hb dX6_access_195 (lv_at hl 4 rfl) ?_
      obtain ⟨x23, hx23, h⟩ := bdS h
      have w0 := w.z
      refine cl_i (wc' := (w_X6 G ad I A J)) w0 (run_V (As := [.int v4]) (rest := []) C w0 (c_X6_isOpen l G ad  _ I A J v4 x23 hx23) mt_X6_isOpen tt_661 6 rfl rfl rfl rfl ⟨Nat.le_of_ble_eq_true rfl, Nat.le_of_ble_eq_true rfl⟩ hl.1 (Nat.le_of_ble_eq_true rfl) dX6_access_197 ⟨Nat.le_of_ble_eq_true rfl, Nat.le_of_ble_eq_true rfl⟩) (fun H locs w => ?_)
      have w := w.uz
      refine lv_if_ne (tgt := 216) hx hb dX6_access_200 (by decide) (fun c24 => ?_) (fun c24 => ?_)
      · rw [if_neg c24] at h
        exact w_X6_access_216 C N I A J v1 v2 v3 v8 h _ _ w _ (lv_sub hl [0, 1, 2, 3, 5] rfl)
      · rw [if_pos c24] at h
        refine lv_aload_n hx hb dX6_access_203 rfl (lv_at hl 0 rfl) ?_
        refine r_get C w 0 6 2 (.ref (ad 2)) ge_X6_0 rfl inX6 (by decide) tt_546 rfl dX6_access_204 ?_
        refine lv_iload_n hx hb dX6_access_207 rfl (lv_at hl 1 rfl) ?_
        refine lv_dup2_11 hx hb dX6_access_208 rfl rfl ?_
        obtain ⟨hin25, h⟩ := gdS h
        refine r_iald C w 2 (A 2 v1.toNatClampNeg) ge_X6_2 rfl hin25 dX6_access_209 ?_
        refine lv_iconst (v := 1) hx hb dX6_access_210 (by decide) ?_
        refine lv_iload hx hb dX6_access_211 (lv_at hl 4 rfl) ?_
        refine lv_ishl hx hb dX6_access_213 ?_
        refine lv_ior hx hb dX6_access_214 ?_
        obtain ⟨hin26, h⟩ := gdS h
        refine r_iast C w 2 (w_X6 G ad I (aS A 2 v1.toNatClampNeg ((A 2 v1.toNatClampNeg) ||| ((1 : Int32) <<< (v4 &&& 31)))) J) ge_X6_2 hin26 st_X6_2 dX6_access_215 (fun H locs w => ?_)
        exact w_X6_access_216 C N I (aS A 2 v1.toNatClampNeg ((A 2 v1.toNatClampNeg) ||| ((1 : Int32) <<< (v4 &&& 31)))) J v1 v2 v3 v8 h _ _ w _ (lv_sub hl [0, 1, 2, 3, 5] rfl)
    · rw [if_neg c22] at h
      refine lv_aload_n hx hb dX6_access_178 rfl (lv_at hl 0 rfl) ?_
      refine r_get C w 0 6 3 (.ref (ad 3)) ge_X6_0 rfl inX6 (by decide) tt_547 rfl dX6_access_179 ?_
      refine lv_iload_n hx hb dX6_access_182 rfl (lv_at hl 1 rfl) ?_
      refine lv_dup2_11 hx hb dX6_access_183 rfl rfl ?_
      obtain ⟨hin27, h⟩ := gdS h
      refine r_iald C w 3 (A 3 v1.toNatClampNeg) ge_X6_3 rfl hin27 dX6_access_184 ?_
      refine lv_iconst (v := 1) hx hb dX6_access_185 (by decide) ?_
      refine lv_iload hx hb dX6_access_186 (lv_at hl 4 rfl) ?_
      refine lv_ishl hx hb dX6_access_188 ?_
      refine lv_ior hx hb dX6_access_189 ?_
      obtain ⟨hin28, h⟩ := gdS h
      refine r_iast C w 3 (w_X6 G ad I (aS A 3 v1.toNatClampNeg ((A 3 v1.toNatClampNeg) ||| ((1 : Int32) <<< (v4 &&& 31)))) J) ge_X6_3 hin28 st_X6_3 dX6_access_190 (fun H locs w => ?_)
      refine lv_goto (tgt := 216) hx hb dX6_access_191 (by decide) ?_
      exact w_X6_access_216 C N I (aS A 3 v1.toNatClampNeg ((A 3 v1.toNatClampNeg) ||| ((1 : Int32) <<< (v4 &&& 31)))) J v1 v2 v3 v8 h _ _ w _ (lv_sub hl [0, 1, 2, 3, 5] rfl)
  · rw [if_pos c21] at h
    refine lv_bipush (v := (-3)) hx hb dX6_access_170 (by decide) ?_
    cases h
    exact ret_I C w rfl rfl dX6_access_172
set_option maxHeartbeats 4000000 in
set_option maxRecDepth 100000 in
theorem w_X6_access_125 {p : Program} {l : Launch} {e : Env} {s : State} {m : MethodId} {args : Array Value} {below : List Frame} {meth : Method} {c : Code} {FA : Nat → Prop} {G : GG} {ad : Nat → Nat} {r : Int32} {I' : Nat → Int32} {A' : Nat → Nat → Int32} {J' : Nat → Nat → Int64}  (C : CX p m meth c s args yX6_access cX6_access 9 (some .int)) (N : Nat) : ∀ (I : Nat → Int32) (A : Nat → Nat → Int32) (J : Nat → Nat → Int64) (v1 : Int32) (v2 : Int32) (v3 : Int32) (v4 : Int32) (v5 : Int32), f_X6_access_125 N I A J v1 v2 v3 v4 v5 = some (r, I', A', J') → ∀ (H : Heap) (locs : List Loc), WD G FA (w_X6 G ad I A J) s H locs → ∀ ls : Array Slot, lv_has ls 9 [(0, .ref (ad 0)), (1, .int v1), (2, .int v2), (3, .int v3), (4, .int v4), (5, .int v5)] → W p l e { frames := 3, cells := 0, slots := 0, locals := 76 } s m args below meth c H locs 0 0 (EnI below G FA args s (w_X6 G ad I' A' J') r) (F0 m 125 ls []) := by
  have hx := C.1
  have hb := C.2.1
  intro I A J v1 v2 v3 v4 v5 h H locs w ls hl
  unfold f_X6_access_125 at h
  refine lv_iload hx hb dX6_access_125 (lv_at hl 5 rfl) ?_
  refine lv_if_eq (tgt := 144) hx hb dX6_access_127 (by decide) (fun c29 => ?_) (fun c29 => ?_)
  · rw [if_pos c29] at h
    refine lv_iconst (v := 0) hx hb dX6_access_144 (by decide) ?_
    refine lv_istore (lv' := [(8, .int 0), (0, .ref (ad 0)), (1, .int v1), (2, .int v2), (3, .int v3), (4, .int v4), (5, .int v5)]) hx hb dX6_access_145 hl (by decide) rfl (fun ls hl => ?_)
    refine lv_iload hx hb dX6_access_147 (lv_at hl 6 rfl) ?_
    refine lv_if_eq (tgt := 160) hx hb dX6_access_149 (by decide) (fun c30 => ?_) (fun c30 => ?_)
    · rw [if_pos c30] at h
      exact w_X6_access_160 C N I A J v1 v2 v3 v4 0 h _ _ w _ (lv_sub hl [1, 2, 3, 4, 5, 0] rfl)
    · rw [if_neg c30] at h
      refine lv_iload hx hb dX6_access_152 (lv_at hl 0 rfl) ?_
      refine lv_if_ne (tgt := 160) hx hb dX6_access_154 (by decide) (fun c31 => ?_) (fun c31 => ?_)
      · exact absurd c31 (by decide)
      refine lv_iload hx hb dX6_access_157 (lv_at hl 6 rfl) ?_
      cases h
      exact ret_I C w rfl rfl dX6_access_159
  · rw [if_neg c29] at h
    refine lv_aload_n hx hb dX6_access_130 rfl (lv_at hl 0 rfl) ?_
    refine lv_iload_n hx hb dX6_access_131 rfl (lv_at hl 1 rfl) ?_
    refine lv_iload hx hb dX6_access_132 (lv_at hl 4 rfl) ?_
    obtain ⟨x32, hx32, h⟩ := bdS h
    have w0 := w.z
    refine cl_i (wc' := (w_X6 G ad I A J)) w0 (run_V (As := [.int v1, .int v4]) (rest := []) C w0 (c_X6_hasGlass l G ad  _ N I A J v1 v4 x32 hx32) mt_X6_hasGlass tt_665 6 rfl rfl rfl rfl ⟨Nat.le_of_ble_eq_true rfl, Nat.le_of_ble_eq_true rfl⟩ hl.1 (Nat.le_of_ble_eq_true rfl) dX6_access_134 ⟨Nat.le_of_ble_eq_true rfl, Nat.le_of_ble_eq_true rfl⟩) (fun H locs w => ?_)
    have w := w.uz
    refine lv_if_eq (tgt := 144) hx hb dX6_access_137 (by decide) (fun c33 => ?_) (fun c33 => ?_)
    · rw [if_pos c33] at h
      refine lv_iconst (v := 0) hx hb dX6_access_144 (by decide) ?_
      refine lv_istore (lv' := [(8, .int 0), (0, .ref (ad 0)), (1, .int v1), (2, .int v2), (3, .int v3), (4, .int v4), (5, .int v5)]) hx hb dX6_access_145 hl (by decide) rfl (fun ls hl => ?_)
      refine lv_iload hx hb dX6_access_147 (lv_at hl 6 rfl) ?_
      refine lv_if_eq (tgt := 160) hx hb dX6_access_149 (by decide) (fun c34 => ?_) (fun c34 => ?_)
      · rw [if_pos c34] at h
        exact w_X6_access_160 C N I A J v1 v2 v3 v4 0 h _ _ w _ (lv_sub hl [1, 2, 3, 4, 5, 0] rfl)
      · rw [if_neg c34] at h
        refine lv_iload hx hb dX6_access_152 (lv_at hl 0 rfl) ?_
        refine lv_if_ne (tgt := 160) hx hb dX6_access_154 (by decide) (fun c35 => ?_) (fun c35 => ?_)
        · exact absurd c35 (by decide)
        refine lv_iload hx hb dX6_access_157 (lv_at hl 6 rfl) ?_
        cases h
        exact ret_I C w rfl rfl dX6_access_159
    · rw [if_neg c33] at h
      refine lv_iconst (v := 1) hx hb dX6_access_140 (by decide) ?_
      refine lv_goto (tgt := 145) hx hb dX6_access_141 (by decide) ?_
      refine lv_istore (lv' := [(8, .int 1), (0, .ref (ad 0)), (1, .int v1), (2, .int v2), (3, .int v3), (4, .int v4), (5, .int v5)]) hx hb dX6_access_145 hl (by decide) rfl (fun ls hl => ?_)
      refine lv_iload hx hb dX6_access_147 (lv_at hl 6 rfl) ?_
      refine lv_if_eq (tgt := 160) hx hb dX6_access_149 (by decide) (fun c36 => ?_) (fun c36 => ?_)
      · rw [if_pos c36] at h
        exact w_X6_access_160 C N I A J v1 v2 v3 v4 1 h _ _ w _ (lv_sub hl [1, 2, 3, 4, 5, 0] rfl)
      · rw [if_neg c36] at h
        refine lv_iload hx hb dX6_access_152 (lv_at hl 0 rfl) ?_
        refine lv_if_ne (tgt := 160) hx hb dX6_access_154 (by decide) (fun c37 => ?_) (fun c37 => ?_)
        rotate_left
        · exact absurd c37 (by decide)
        exact w_X6_access_160 C N I A J v1 v2 v3 v4 1 h _ _ w _ (lv_sub hl [1, 2, 3, 4, 5, 0] rfl)
set_option maxHeartbeats 4000000 in
set_option maxRecDepth 100000 in
theorem w_X6_access_48 {p : Program} {l : Launch} {e : Env} {s : State} {m : MethodId} {args : Array Value} {below : List Frame} {meth : Method} {c : Code} {FA : Nat → Prop} {G : GG} {ad : Nat → Nat} {r : Int32} {I' : Nat → Int32} {A' : Nat → Nat → Int32} {J' : Nat → Nat → Int64}  (C : CX p m meth c s args yX6_access cX6_access 9 (some .int)) (N : Nat) : ∀ (I : Nat → Int32) (A : Nat → Nat → Int32) (J : Nat → Nat → Int64) (v1 : Int32) (v2 : Int32) (v3 : Int32) (v4 : Int32) (s0 : Int32), f_X6_access_48 N I A J v1 v2 v3 v4 s0 = some (r, I', A', J') → ∀ (H : Heap) (locs : List Loc), WD G FA (w_X6 G ad I A J) s H locs → ∀ ls : Array Slot, lv_has ls 9 [(0, .ref (ad 0)), (1, .int v1), (2, .int v2), (3, .int v3), (4, .int v4)] → W p l e { frames := 3, cells := 0, slots := 0, locals := 76 } s m args below meth c H locs 0 0 (EnI below G FA args s (w_X6 G ad I' A' J') r) (F0 m 48 ls [.int s0]) := by
  have hx := C.1
  have hb := C.2.1
  intro I A J v1 v2 v3 v4 s0 h H locs w ls hl
  unfold f_X6_access_48 at h
  refine lv_istore (lv' := [(5, .int s0), (0, .ref (ad 0)), (1, .int v1), (2, .int v2), (3, .int v3), (4, .int v4)]) hx hb dX6_access_48 hl (by decide) rfl (fun ls hl => ?_)
  refine lv_aload_n hx hb dX6_access_50 rfl (lv_at hl 1 rfl) ?_
  refine r_get C w 0 6 2 (.ref (ad 2)) ge_X6_0 rfl inX6 (by decide) tt_546 rfl dX6_access_51 ?_
  refine lv_iload_n hx hb dX6_access_54 rfl (lv_at hl 2 rfl) ?_
  obtain ⟨hin38, h⟩ := gdS h
  refine r_iald C w 2 (A 2 v1.toNatClampNeg) ge_X6_2 rfl hin38 dX6_access_55 ?_
  refine lv_aload_n hx hb dX6_access_56 rfl (lv_at hl 1 rfl) ?_
  refine r_get C w 0 6 3 (.ref (ad 3)) ge_X6_0 rfl inX6 (by decide) tt_547 rfl dX6_access_57 ?_
  refine lv_iload_n hx hb dX6_access_60 rfl (lv_at hl 2 rfl) ?_
  obtain ⟨hin39, h⟩ := gdS h
  refine r_iald C w 3 (A 3 v1.toNatClampNeg) ge_X6_3 rfl hin39 dX6_access_61 ?_
  refine lv_ior hx hb dX6_access_62 ?_
  refine lv_istore (lv' := [(6, .int ((A 2 v1.toNatClampNeg) ||| (A 3 v1.toNatClampNeg))), (5, .int s0), (0, .ref (ad 0)), (1, .int v1), (2, .int v2), (3, .int v3), (4, .int v4)]) hx hb dX6_access_63 hl (by decide) rfl (fun ls hl => ?_)
  refine lv_aload_n hx hb dX6_access_65 rfl (lv_at hl 2 rfl) ?_
  refine lv_iload hx hb dX6_access_66 (lv_at hl 6 rfl) ?_
  obtain ⟨x40, hx40, h⟩ := bdS h
  have w0 := w.z
  refine cl_i (wc' := (w_X6 G ad I A J)) w0 (run_V (As := [.int v4]) (rest := []) C w0 (c_X6_isOpen l G ad  _ I A J v4 x40 hx40) mt_X6_isOpen tt_661 6 rfl rfl rfl rfl ⟨Nat.le_of_ble_eq_true rfl, Nat.le_of_ble_eq_true rfl⟩ hl.1 (Nat.le_of_ble_eq_true rfl) dX6_access_68 ⟨Nat.le_of_ble_eq_true rfl, Nat.le_of_ble_eq_true rfl⟩) (fun H locs w => ?_)
  have w := w.uz
  refine lv_if_eq (tgt := 87) hx hb dX6_access_71 (by decide) (fun c41 => ?_) (fun c41 => ?_)
  · rw [if_pos c41] at h
    refine lv_iload hx hb dX6_access_87 (lv_at hl 0 rfl) ?_
    refine lv_iconst (v := 1) hx hb dX6_access_89 (by decide) ?_
    refine lv_iload hx hb dX6_access_90 (lv_at hl 6 rfl) ?_
    refine lv_ishl hx hb dX6_access_92 ?_
    refine lv_iconst (v := (-1)) hx hb dX6_access_93 (by decide) ?_
    refine lv_ixor hx hb dX6_access_94 ?_
    refine lv_iand hx hb dX6_access_95 ?_
    refine lv_if_eq (tgt := 103) hx hb dX6_access_96 (by decide) (fun c42 => ?_) (fun c42 => ?_)
    · rw [if_pos c42] at h
      refine lv_iconst (v := 0) hx hb dX6_access_103 (by decide) ?_
      refine lv_istore (lv' := [(7, .int 0), (6, .int ((A 2 v1.toNatClampNeg) ||| (A 3 v1.toNatClampNeg))), (5, .int s0), (0, .ref (ad 0)), (1, .int v1), (2, .int v2), (3, .int v3), (4, .int v4)]) hx hb dX6_access_104 hl (by decide) rfl (fun ls hl => ?_)
      refine lv_iload hx hb dX6_access_106 (lv_at hl 2 rfl) ?_
      refine lv_if_ne (tgt := 125) hx hb dX6_access_108 (by decide) (fun c43 => ?_) (fun c43 => ?_)
      · rw [if_neg c43] at h
        exact w_X6_access_125 C N I A J v1 v2 v3 v4 s0 h _ _ w _ (lv_sub hl [3, 4, 5, 6, 7, 2] rfl)
      · rw [if_pos c43] at h
        refine lv_iload_n hx hb dX6_access_111 rfl (lv_at hl 6 rfl) ?_
        refine lv_iconst (v := 2) hx hb dX6_access_112 (by decide) ?_
        refine lv_icmp_ne (tgt := 125) hx hb dX6_access_113 (by decide) (fun c44 => ?_) (fun c44 => ?_)
        · rw [if_neg c44] at h
          exact w_X6_access_125 C N I A J v1 v2 v3 v4 s0 h _ _ w _ (lv_sub hl [3, 4, 5, 6, 7, 2] rfl)
        · rw [if_pos c44] at h
          refine lv_iload hx hb dX6_access_116 (lv_at hl 0 rfl) ?_
          refine lv_if_eq (tgt := 125) hx hb dX6_access_118 (by decide) (fun c45 => ?_) (fun c45 => ?_)
          rotate_left
          · exact absurd c45 (by decide)
          exact w_X6_access_125 C N I A J v1 v2 v3 v4 s0 h _ _ w _ (lv_sub hl [3, 4, 5, 6, 7, 2] rfl)
    · rw [if_neg c42] at h
      refine lv_iconst (v := 1) hx hb dX6_access_99 (by decide) ?_
      refine lv_goto (tgt := 104) hx hb dX6_access_100 (by decide) ?_
      refine lv_istore (lv' := [(7, .int 1), (6, .int ((A 2 v1.toNatClampNeg) ||| (A 3 v1.toNatClampNeg))), (5, .int s0), (0, .ref (ad 0)), (1, .int v1), (2, .int v2), (3, .int v3), (4, .int v4)]) hx hb dX6_access_104 hl (by decide) rfl (fun ls hl => ?_)
      refine lv_iload hx hb dX6_access_106 (lv_at hl 2 rfl) ?_
      refine lv_if_ne (tgt := 125) hx hb dX6_access_108 (by decide) (fun c46 => ?_) (fun c46 => ?_)
      · rw [if_neg c46] at h
        exact w_X6_access_125 C N I A J v1 v2 v3 v4 s0 h _ _ w _ (lv_sub hl [3, 4, 5, 6, 7, 2] rfl)
      · rw [if_pos c46] at h
        refine lv_iload_n hx hb dX6_access_111 rfl (lv_at hl 6 rfl) ?_
        refine lv_iconst (v := 2) hx hb dX6_access_112 (by decide) ?_
        refine lv_icmp_ne (tgt := 125) hx hb dX6_access_113 (by decide) (fun c47 => ?_) (fun c47 => ?_)
        · rw [if_neg c47] at h
          exact w_X6_access_125 C N I A J v1 v2 v3 v4 s0 h _ _ w _ (lv_sub hl [3, 4, 5, 6, 7, 2] rfl)
        · rw [if_pos c47] at h
          refine lv_iload hx hb dX6_access_116 (lv_at hl 0 rfl) ?_
          refine lv_if_eq (tgt := 125) hx hb dX6_access_118 (by decide) (fun c48 => ?_) (fun c48 => ?_)
          · exact absurd c48 (by decide)
          refine lv_bipush (v := (-12)) hx hb dX6_access_121 (by decide) ?_
          refine lv_istore (lv' := [(5, .int (-12)), (7, .int 1), (6, .int ((A 2 v1.toNatClampNeg) ||| (A 3 v1.toNatClampNeg))), (0, .ref (ad 0)), (1, .int v1), (2, .int v2), (3, .int v3), (4, .int v4)]) hx hb dX6_access_123 hl (by decide) rfl (fun ls hl => ?_)
          exact w_X6_access_125 C N I A J v1 v2 v3 v4 (-12) h _ _ w _ (lv_sub hl [3, 4, 5, 6, 7, 0] rfl)
  · rw [if_neg c41] at h
    refine lv_iload hx hb dX6_access_74 (lv_at hl 0 rfl) ?_
    refine lv_if_eq (tgt := 83) hx hb dX6_access_76 (by decide) (fun c49 => ?_) (fun c49 => ?_)
    · rw [if_pos c49] at h
      refine lv_iconst (v := 0) hx hb dX6_access_83 (by decide) ?_
      refine lv_goto (tgt := 104) hx hb dX6_access_84 (by decide) ?_
      refine lv_istore (lv' := [(7, .int 0), (6, .int ((A 2 v1.toNatClampNeg) ||| (A 3 v1.toNatClampNeg))), (5, .int s0), (0, .ref (ad 0)), (1, .int v1), (2, .int v2), (3, .int v3), (4, .int v4)]) hx hb dX6_access_104 hl (by decide) rfl (fun ls hl => ?_)
      refine lv_iload hx hb dX6_access_106 (lv_at hl 2 rfl) ?_
      refine lv_if_ne (tgt := 125) hx hb dX6_access_108 (by decide) (fun c50 => ?_) (fun c50 => ?_)
      · rw [if_neg c50] at h
        exact w_X6_access_125 C N I A J v1 v2 v3 v4 s0 h _ _ w _ (lv_sub hl [3, 4, 5, 6, 7, 2] rfl)
      · rw [if_pos c50] at h
        refine lv_iload_n hx hb dX6_access_111 rfl (lv_at hl 6 rfl) ?_
        refine lv_iconst (v := 2) hx hb dX6_access_112 (by decide) ?_
        refine lv_icmp_ne (tgt := 125) hx hb dX6_access_113 (by decide) (fun c51 => ?_) (fun c51 => ?_)
        · rw [if_neg c51] at h
          exact w_X6_access_125 C N I A J v1 v2 v3 v4 s0 h _ _ w _ (lv_sub hl [3, 4, 5, 6, 7, 2] rfl)
        · rw [if_pos c51] at h
          refine lv_iload hx hb dX6_access_116 (lv_at hl 0 rfl) ?_
          refine lv_if_eq (tgt := 125) hx hb dX6_access_118 (by decide) (fun c52 => ?_) (fun c52 => ?_)
          rotate_left
          · exact absurd c52 (by decide)
          exact w_X6_access_125 C N I A J v1 v2 v3 v4 s0 h _ _ w _ (lv_sub hl [3, 4, 5, 6, 7, 2] rfl)
    · rw [if_neg c49] at h
      refine lv_iconst (v := 1) hx hb dX6_access_79 (by decide) ?_
      refine lv_goto (tgt := 104) hx hb dX6_access_80 (by decide) ?_
      refine lv_istore (lv' := [(7, .int 1), (6, .int ((A 2 v1.toNatClampNeg) ||| (A 3 v1.toNatClampNeg))), (5, .int s0), (0, .ref (ad 0)), (1, .int v1), (2, .int v2), (3, .int v3), (4, .int v4)]) hx hb dX6_access_104 hl (by decide) rfl (fun ls hl => ?_)
      refine lv_iload hx hb dX6_access_106 (lv_at hl 2 rfl) ?_
      refine lv_if_ne (tgt := 125) hx hb dX6_access_108 (by decide) (fun c53 => ?_) (fun c53 => ?_)
      · rw [if_neg c53] at h
        exact w_X6_access_125 C N I A J v1 v2 v3 v4 s0 h _ _ w _ (lv_sub hl [3, 4, 5, 6, 7, 2] rfl)
      · rw [if_pos c53] at h
        refine lv_iload_n hx hb dX6_access_111 rfl (lv_at hl 6 rfl) ?_
        refine lv_iconst (v := 2) hx hb dX6_access_112 (by decide) ?_
        refine lv_icmp_ne (tgt := 125) hx hb dX6_access_113 (by decide) (fun c54 => ?_) (fun c54 => ?_)
        · rw [if_neg c54] at h
          exact w_X6_access_125 C N I A J v1 v2 v3 v4 s0 h _ _ w _ (lv_sub hl [3, 4, 5, 6, 7, 2] rfl)
        · rw [if_pos c54] at h
          refine lv_iload hx hb dX6_access_116 (lv_at hl 0 rfl) ?_
          refine lv_if_eq (tgt := 125) hx hb dX6_access_118 (by decide) (fun c55 => ?_) (fun c55 => ?_)
          · exact absurd c55 (by decide)
          refine lv_bipush (v := (-12)) hx hb dX6_access_121 (by decide) ?_
          refine lv_istore (lv' := [(5, .int (-12)), (7, .int 1), (6, .int ((A 2 v1.toNatClampNeg) ||| (A 3 v1.toNatClampNeg))), (0, .ref (ad 0)), (1, .int v1), (2, .int v2), (3, .int v3), (4, .int v4)]) hx hb dX6_access_123 hl (by decide) rfl (fun ls hl => ?_)
          exact w_X6_access_125 C N I A J v1 v2 v3 v4 (-12) h _ _ w _ (lv_sub hl [3, 4, 5, 6, 7, 0] rfl)
set_option maxHeartbeats 4000000 in
set_option maxRecDepth 100000 in
theorem c_X6_access (l : Launch) (G : GG) (ad : Nat → Nat) (sz : Nat) (N : Nat) (I : Nat → Int32) (A : Nat → Nat → Int32) (J : Nat → Nat → Int64) (a1 : Int32) (a2 : Int32) (a3 : Int32) (r : Int32) (I' : Nat → Int32) (A' : Nat → Nat → Int32) (J' : Nat → Nat → Int64) (h : f_X6_access N I A J a1 a2 a3 = some (r, I', A', J')) : CtI l yX6_access cX6_access 9 (some .int) { frames := 3, cells := 0, slots := 0, locals := 76 } G [.ref (ad 0), .int a1, .int a2, .int a3] (w_X6 G ad I A J) (w_X6 G ad I' A' J') sz r := by
  refine ct_of (by decide) (Nat.le_of_ble_eq_true rfl) (fun p e s m below meth c ls C w hsz hl => ?_)
  have hx := C.1
  have hb := C.2.1
  have hl : lv_has ls 9 [(0, .ref (ad 0)), (1, .int a1), (2, .int a2), (3, .int a3)] := hl
  unfold f_X6_access at h
  refine lv_iload_n hx hb dX6_access_0 rfl (lv_at hl 1 rfl) ?_
  obtain ⟨x56, hx56, h⟩ := bdS h
  have w0 : WD G _ ([] ++ ([] ++ (w_X6 G ad I A J))) s _ _ := w
  refine cl_i (wc' := []) w0 (run_S (As := [.int a1]) (rest := []) C w0 (c_X6_isUser l G  _ a1 x56 hx56) mt_X6_isUser tt_638 rfl rfl ⟨Nat.le_of_ble_eq_true rfl, Nat.le_of_ble_eq_true rfl⟩ hl.1 (Nat.le_of_ble_eq_true rfl) dX6_access_1 ⟨Nat.le_of_ble_eq_true rfl, Nat.le_of_ble_eq_true rfl⟩) (fun H locs w => ?_)
  have w : WD G _ (w_X6 G ad I A J) s H locs := w
  refine lv_if_eq (tgt := 21) hx hb dX6_access_4 (by decide) (fun c57 => ?_) (fun c57 => ?_)
  · rw [if_pos c57] at h
    refine lv_bipush (v := (-2)) hx hb dX6_access_21 (by decide) ?_
    cases h
    exact ret_I C w rfl rfl dX6_access_23
  · rw [if_neg c57] at h
    refine lv_iload_n hx hb dX6_access_7 rfl (lv_at hl 2 rfl) ?_
    refine lv_iconst (v := 0) hx hb dX6_access_8 (by decide) ?_
    refine lv_aload_n hx hb dX6_access_9 rfl (lv_at hl 0 rfl) ?_
    refine r_get C w 0 6 7 (.int (I 7)) ge_X6_0 rfl inX6 (by decide) tt_551 rfl dX6_access_10 ?_
    refine lv_iconst (v := 1) hx hb dX6_access_13 (by decide) ?_
    refine lv_isub hx hb dX6_access_14 ?_
    obtain ⟨x58, hx58, h⟩ := bdS h
    have w0 : WD G _ ([] ++ ([] ++ (w_X6 G ad I A J))) s _ _ := w
    refine cl_i (wc' := []) w0 (run_S (As := [.int a2, .int 0, .int ((I 7) - 1)]) (rest := []) C w0 (c_X6_isIn l G  _ a2 0 ((I 7) - 1) x58 hx58) mt_X6_isIn tt_630 rfl rfl ⟨Nat.le_of_ble_eq_true rfl, Nat.le_of_ble_eq_true rfl⟩ hl.1 (Nat.le_of_ble_eq_true rfl) dX6_access_15 ⟨Nat.le_of_ble_eq_true rfl, Nat.le_of_ble_eq_true rfl⟩) (fun H locs w => ?_)
    have w : WD G _ (w_X6 G ad I A J) s H locs := w
    refine lv_if_ne (tgt := 24) hx hb dX6_access_18 (by decide) (fun c59 => ?_) (fun c59 => ?_)
    · rw [if_neg c59] at h
      refine lv_aload_n hx hb dX6_access_24 rfl (lv_at hl 0 rfl) ?_
      refine r_get C w 0 6 6 (.ref (ad 5)) ge_X6_0 rfl inX6 (by decide) tt_550 rfl dX6_access_25 ?_
      refine lv_iload_n hx hb dX6_access_28 rfl (lv_at hl 2 rfl) ?_
      obtain ⟨hin60, h⟩ := gdS h
      refine r_iald C w 5 (A 6 a2.toNatClampNeg) ge_X6_5 rfl hin60 dX6_access_29 ?_
      refine lv_istore (lv' := [(4, .int (A 6 a2.toNatClampNeg)), (0, .ref (ad 0)), (1, .int a1), (2, .int a2), (3, .int a3)]) hx hb dX6_access_30 hl (by decide) rfl (fun ls hl => ?_)
      refine lv_aload_n hx hb dX6_access_32 rfl (lv_at hl 1 rfl) ?_
      refine lv_iload_n hx hb dX6_access_33 rfl (lv_at hl 2 rfl) ?_
      refine lv_iload hx hb dX6_access_34 (lv_at hl 0 rfl) ?_
      obtain ⟨x61, hx61, h⟩ := bdS h
      have w0 := w.z
      refine cl_i (wc' := (w_X6 G ad I A J)) w0 (run_V (As := [.int a1, .int (A 6 a2.toNatClampNeg)]) (rest := []) C w0 (c_X6_isWalled l G ad  _ N I A J a1 (A 6 a2.toNatClampNeg) x61 hx61) mt_X6_isWalled tt_657 6 rfl rfl rfl rfl ⟨Nat.le_of_ble_eq_true rfl, Nat.le_of_ble_eq_true rfl⟩ hl.1 (Nat.le_of_ble_eq_true rfl) dX6_access_36 ⟨Nat.le_of_ble_eq_true rfl, Nat.le_of_ble_eq_true rfl⟩) (fun H locs w => ?_)
      have w := w.uz
      refine lv_if_eq (tgt := 47) hx hb dX6_access_39 (by decide) (fun c62 => ?_) (fun c62 => ?_)
      · rw [if_pos c62] at h
        refine lv_iconst (v := 0) hx hb dX6_access_47 (by decide) ?_
        exact w_X6_access_48 C N I A J a1 a2 a3 (A 6 a2.toNatClampNeg) 0 h _ _ w _ (lv_sub hl [1, 2, 3, 4, 0] rfl)
      · rw [if_neg c62] at h
        refine lv_bipush (v := (-11)) hx hb dX6_access_42 (by decide) ?_
        refine lv_goto (tgt := 48) hx hb dX6_access_44 (by decide) ?_
        exact w_X6_access_48 C N I A J a1 a2 a3 (A 6 a2.toNatClampNeg) (-11) h _ _ w _ (lv_sub hl [1, 2, 3, 4, 0] rfl)
    · rw [if_pos c59] at h
      refine lv_bipush (v := (-2)) hx hb dX6_access_21 (by decide) ?_
      cases h
      exact ret_I C w rfl rfl dX6_access_23
set_option maxHeartbeats 4000000 in
set_option maxRecDepth 100000 in
theorem c_X6_read (l : Launch) (G : GG) (ad : Nat → Nat) (sz : Nat) (N : Nat) (I : Nat → Int32) (A : Nat → Nat → Int32) (J : Nat → Nat → Int64) (a1 : Int32) (a2 : Int32) (r : Int32) (I' : Nat → Int32) (A' : Nat → Nat → Int32) (J' : Nat → Nat → Int64) (h : f_X6_read N I A J a1 a2 = some (r, I', A', J')) : CtI l yX6_read cX6_read 3 (some .int) { frames := 4, cells := 0, slots := 0, locals := 104 } G [.ref (ad 0), .int a1, .int a2] (w_X6 G ad I A J) (w_X6 G ad I' A' J') sz r := by
  refine ct_of (by decide) (Nat.le_of_ble_eq_true rfl) (fun p e s m below meth c ls C w hsz hl => ?_)
  have hx := C.1
  have hb := C.2.1
  have hl : lv_has ls 3 [(0, .ref (ad 0)), (1, .int a1), (2, .int a2)] := hl
  unfold f_X6_read at h
  refine lv_aload_n hx hb dX6_read_0 rfl (lv_at hl 0 rfl) ?_
  refine lv_iload_n hx hb dX6_read_1 rfl (lv_at hl 1 rfl) ?_
  refine lv_iload_n hx hb dX6_read_2 rfl (lv_at hl 2 rfl) ?_
  refine lv_iconst (v := 1) hx hb dX6_read_3 (by decide) ?_
  obtain ⟨x2, hx2, h⟩ := bdS h
  have w0 := w.z
  refine cl_i (wc' := (w_X6 G ad x2.2.1 x2.2.2.1 x2.2.2.2)) w0 (run_V (As := [.int a1, .int a2, .int 1]) (rest := []) C w0 (c_X6_access l G ad  _ N I A J a1 a2 1 x2.1 x2.2.1 x2.2.2.1 x2.2.2.2 hx2) mt_X6_access tt_653 6 rfl rfl rfl rfl ⟨Nat.le_of_ble_eq_true rfl, Nat.le_of_ble_eq_true rfl⟩ hl.1 (Nat.le_of_ble_eq_true rfl) dX6_read_4 ⟨Nat.le_of_ble_eq_true rfl, Nat.le_of_ble_eq_true rfl⟩) (fun H locs w => ?_)
  have w := w.uz
  cases h
  exact ret_I C w rfl rfl dX6_read_7
set_option maxHeartbeats 4000000 in
set_option maxRecDepth 100000 in
theorem c_X6_write (l : Launch) (G : GG) (ad : Nat → Nat) (sz : Nat) (N : Nat) (I : Nat → Int32) (A : Nat → Nat → Int32) (J : Nat → Nat → Int64) (a1 : Int32) (a2 : Int32) (r : Int32) (I' : Nat → Int32) (A' : Nat → Nat → Int32) (J' : Nat → Nat → Int64) (h : f_X6_write N I A J a1 a2 = some (r, I', A', J')) : CtI l yX6_write cX6_write 3 (some .int) { frames := 4, cells := 0, slots := 0, locals := 104 } G [.ref (ad 0), .int a1, .int a2] (w_X6 G ad I A J) (w_X6 G ad I' A' J') sz r := by
  refine ct_of (by decide) (Nat.le_of_ble_eq_true rfl) (fun p e s m below meth c ls C w hsz hl => ?_)
  have hx := C.1
  have hb := C.2.1
  have hl : lv_has ls 3 [(0, .ref (ad 0)), (1, .int a1), (2, .int a2)] := hl
  unfold f_X6_write at h
  refine lv_aload_n hx hb dX6_write_0 rfl (lv_at hl 0 rfl) ?_
  refine lv_iload_n hx hb dX6_write_1 rfl (lv_at hl 1 rfl) ?_
  refine lv_iload_n hx hb dX6_write_2 rfl (lv_at hl 2 rfl) ?_
  refine lv_iconst (v := 2) hx hb dX6_write_3 (by decide) ?_
  obtain ⟨x2, hx2, h⟩ := bdS h
  have w0 := w.z
  refine cl_i (wc' := (w_X6 G ad x2.2.1 x2.2.2.1 x2.2.2.2)) w0 (run_V (As := [.int a1, .int a2, .int 2]) (rest := []) C w0 (c_X6_access l G ad  _ N I A J a1 a2 2 x2.1 x2.2.1 x2.2.2.1 x2.2.2.2 hx2) mt_X6_access tt_653 6 rfl rfl rfl rfl ⟨Nat.le_of_ble_eq_true rfl, Nat.le_of_ble_eq_true rfl⟩ hl.1 (Nat.le_of_ble_eq_true rfl) dX6_write_4 ⟨Nat.le_of_ble_eq_true rfl, Nat.le_of_ble_eq_true rfl⟩) (fun H locs w => ?_)
  have w := w.uz
  cases h
  exact ret_I C w rfl rfl dX6_write_7
set_option maxHeartbeats 4000000 in
set_option maxRecDepth 100000 in
theorem w_X6_duties_4 {p : Program} {l : Launch} {e : Env} {s : State} {m : MethodId} {args : Array Value} {below : List Frame} {meth : Method} {c : Code} {FA : Nat → Prop} {G : GG} {ad : Nat → Nat} {r : Int32} {I : Nat → Int32} {A : Nat → Nat → Int32} {J : Nat → Nat → Int64} (C : CX p m meth c s args yX6_duties cX6_duties 4 (some .int)) (N : Nat) : ∀ n : Nat, ∀ (v1 : Int32) (v2 : Int32) (v3 : Int32), f_X6_duties_4 N I A J n v1 v2 v3 = some r → ∀ (H : Heap) (locs : List Loc), WD G FA (w_X6 G ad I A J) s H locs → ∀ ls : Array Slot, lv_has ls 4 [(0, .ref (ad 0)), (1, .int v1), (2, .int v2), (3, .int v3)] → W p l e { frames := 0, cells := 0, slots := 0, locals := 0 } s m args below meth c H locs 0 0 (EnI below G FA args s (w_X6 G ad I A J) r) (F0 m 4 ls []) := by
  have hx := C.1
  have hb := C.2.1
  intro n
  induction n with
  | zero =>
    intro v1 v2 v3 h
    cases h
  | succ n ih =>
    intro v1 v2 v3 h H locs w ls hl
    rw [f_X6_duties_4] at h
    refine lv_iload_n hx hb dX6_duties_4 rfl (lv_at hl 3 rfl) ?_
    refine lv_aload_n hx hb dX6_duties_5 rfl (lv_at hl 0 rfl) ?_
    refine r_get C w 0 6 12 (.int (I 12)) ge_X6_0 rfl inX6 (by decide) tt_556 rfl dX6_duties_6 ?_
    refine lv_icmp_ge (tgt := 45) hx hb dX6_duties_9 (by decide) (fun c3 => ?_) (fun c3 => ?_)
    · rw [if_pos c3] at h
      refine lv_iload_n hx hb dX6_duties_45 rfl (lv_at hl 2 rfl) ?_
      cases h
      exact ret_I C w rfl rfl dX6_duties_46
    · rw [if_neg c3] at h
      refine lv_aload_n hx hb dX6_duties_12 rfl (lv_at hl 0 rfl) ?_
      refine r_get C w 0 6 8 (.ref (ad 6)) ge_X6_0 rfl inX6 (by decide) tt_552 rfl dX6_duties_13 ?_
      refine lv_iload_n hx hb dX6_duties_16 rfl (lv_at hl 3 rfl) ?_
      obtain ⟨hin4, h⟩ := gdS h
      refine r_iald C w 6 (A 8 v3.toNatClampNeg) ge_X6_6 rfl hin4 dX6_duties_17 ?_
      refine lv_iload_n hx hb dX6_duties_18 rfl (lv_at hl 1 rfl) ?_
      refine lv_icmp_ne (tgt := 37) hx hb dX6_duties_19 (by decide) (fun c5 => ?_) (fun c5 => ?_)
      · rw [if_neg c5] at h
        refine lv_iload_n hx hb dX6_duties_37 rfl (lv_at hl 2 rfl) ?_
        refine lv_istore_n (lv' := [(2, .int v2), (0, .ref (ad 0)), (1, .int v1), (3, .int v3)]) hx hb dX6_duties_38 rfl hl (by decide) rfl (fun ls hl => ?_)
        refine lv_iinc (v := v3 + 1) (lv' := [(3, .int (v3 + 1)), (2, .int v2), (0, .ref (ad 0)), (1, .int v1)]) hx hb dX6_duties_39 hl (k := 3) rfl rfl (by decide) rfl (fun ls hl => ?_)
        refine lv_goto (tgt := 4) hx hb dX6_duties_42 (by decide) ?_
        exact ih v1 v2 (v3 + 1) h _ _ w _ (lv_sub hl [2, 3, 1, 0] rfl)
      · rw [if_pos c5] at h
        refine lv_aload_n hx hb dX6_duties_22 rfl (lv_at hl 0 rfl) ?_
        refine r_get C w 0 6 11 (.ref (ad 9)) ge_X6_0 rfl inX6 (by decide) tt_555 rfl dX6_duties_23 ?_
        refine lv_iload_n hx hb dX6_duties_26 rfl (lv_at hl 3 rfl) ?_
        obtain ⟨hin6, h⟩ := gdS h
        refine r_zald C w 9 (A 11 v3.toNatClampNeg) ge_X6_9 rfl hin6 dX6_duties_27 ?_
        refine lv_if_eq (tgt := 37) hx hb dX6_duties_28 (by decide) (fun c7 => ?_) (fun c7 => ?_)
        · rw [if_pos c7] at h
          refine lv_iload_n hx hb dX6_duties_37 rfl (lv_at hl 2 rfl) ?_
          refine lv_istore_n (lv' := [(2, .int v2), (0, .ref (ad 0)), (1, .int v1), (3, .int v3)]) hx hb dX6_duties_38 rfl hl (by decide) rfl (fun ls hl => ?_)
          refine lv_iinc (v := v3 + 1) (lv' := [(3, .int (v3 + 1)), (2, .int v2), (0, .ref (ad 0)), (1, .int v1)]) hx hb dX6_duties_39 hl (k := 3) rfl rfl (by decide) rfl (fun ls hl => ?_)
          refine lv_goto (tgt := 4) hx hb dX6_duties_42 (by decide) ?_
          exact ih v1 v2 (v3 + 1) h _ _ w _ (lv_sub hl [2, 3, 1, 0] rfl)
        · rw [if_neg c7] at h
          refine lv_iload_n hx hb dX6_duties_31 rfl (lv_at hl 2 rfl) ?_
          refine lv_iconst (v := 1) hx hb dX6_duties_32 (by decide) ?_
          refine lv_iadd hx hb dX6_duties_33 ?_
          refine lv_goto (tgt := 38) hx hb dX6_duties_34 (by decide) ?_
          refine lv_istore_n (lv' := [(2, .int (v2 + 1)), (0, .ref (ad 0)), (1, .int v1), (3, .int v3)]) hx hb dX6_duties_38 rfl hl (by decide) rfl (fun ls hl => ?_)
          refine lv_iinc (v := v3 + 1) (lv' := [(3, .int (v3 + 1)), (2, .int (v2 + 1)), (0, .ref (ad 0)), (1, .int v1)]) hx hb dX6_duties_39 hl (k := 3) rfl rfl (by decide) rfl (fun ls hl => ?_)
          refine lv_goto (tgt := 4) hx hb dX6_duties_42 (by decide) ?_
          exact ih v1 (v2 + 1) (v3 + 1) h _ _ w _ (lv_sub hl [2, 3, 1, 0] rfl)
set_option maxHeartbeats 4000000 in
set_option maxRecDepth 100000 in
theorem c_X6_duties (l : Launch) (G : GG) (ad : Nat → Nat) (sz : Nat) (N : Nat) (I : Nat → Int32) (A : Nat → Nat → Int32) (J : Nat → Nat → Int64) (a1 : Int32) (r : Int32) (h : f_X6_duties N I A J a1 = some r) : CtI l yX6_duties cX6_duties 4 (some .int) { frames := 0, cells := 0, slots := 0, locals := 0 } G [.ref (ad 0), .int a1] (w_X6 G ad I A J) (w_X6 G ad I A J) sz r := by
  refine ct_of (by decide) (Nat.le_of_ble_eq_true rfl) (fun p e s m below meth c ls C w hsz hl => ?_)
  have hx := C.1
  have hb := C.2.1
  have hl : lv_has ls 4 [(0, .ref (ad 0)), (1, .int a1)] := hl
  unfold f_X6_duties at h
  refine lv_iconst (v := 0) hx hb dX6_duties_0 (by decide) ?_
  refine lv_istore_n (lv' := [(2, .int 0), (0, .ref (ad 0)), (1, .int a1)]) hx hb dX6_duties_1 rfl hl (by decide) rfl (fun ls hl => ?_)
  refine lv_iconst (v := 0) hx hb dX6_duties_2 (by decide) ?_
  refine lv_istore_n (lv' := [(3, .int 0), (2, .int 0), (0, .ref (ad 0)), (1, .int a1)]) hx hb dX6_duties_3 rfl hl (by decide) rfl (fun ls hl => ?_)
  exact w_X6_duties_4 C N N a1 0 0 h _ _ w _ (lv_sub hl [2, 3, 1, 0] rfl)
set_option maxHeartbeats 4000000 in
set_option maxRecDepth 100000 in
theorem w_X6_isLate_2 {p : Program} {l : Launch} {e : Env} {s : State} {m : MethodId} {args : Array Value} {below : List Frame} {meth : Method} {c : Code} {FA : Nat → Prop} {G : GG} {ad : Nat → Nat} {r : Int32} {I : Nat → Int32} {A : Nat → Nat → Int32} {J : Nat → Nat → Int64} (C : CX p m meth c s args yX6_isLate cX6_isLate 3 (some .boolean)) (N : Nat) : ∀ n : Nat, ∀ (v1 : Int32) (v2 : Int32), f_X6_isLate_2 N I A J n v1 v2 = some r → ∀ (H : Heap) (locs : List Loc), WD G FA (w_X6 G ad I A J) s H locs → ∀ ls : Array Slot, lv_has ls 3 [(0, .ref (ad 0)), (1, .int v1), (2, .int v2)] → W p l e { frames := 0, cells := 0, slots := 0, locals := 0 } s m args below meth c H locs 0 0 (EnI below G FA args s (w_X6 G ad I A J) r) (F0 m 2 ls []) := by
  have hx := C.1
  have hb := C.2.1
  intro n
  induction n with
  | zero =>
    intro v1 v2 h
    cases h
  | succ n ih =>
    intro v1 v2 h H locs w ls hl
    rw [f_X6_isLate_2] at h
    refine lv_iload_n hx hb dX6_isLate_2 rfl (lv_at hl 2 rfl) ?_
    refine lv_aload_n hx hb dX6_isLate_3 rfl (lv_at hl 0 rfl) ?_
    refine r_get C w 0 6 12 (.int (I 12)) ge_X6_0 rfl inX6 (by decide) tt_556 rfl dX6_isLate_4 ?_
    refine lv_icmp_ge (tgt := 53) hx hb dX6_isLate_7 (by decide) (fun c4 => ?_) (fun c4 => ?_)
    · rw [if_pos c4] at h
      refine lv_iconst (v := 0) hx hb dX6_isLate_53 (by decide) ?_
      cases h
      exact ret_Z C w (Or.inl rfl) rfl rfl dX6_isLate_54
    · rw [if_neg c4] at h
      refine lv_aload_n hx hb dX6_isLate_10 rfl (lv_at hl 0 rfl) ?_
      refine r_get C w 0 6 8 (.ref (ad 6)) ge_X6_0 rfl inX6 (by decide) tt_552 rfl dX6_isLate_11 ?_
      refine lv_iload_n hx hb dX6_isLate_14 rfl (lv_at hl 2 rfl) ?_
      obtain ⟨hin5, h⟩ := gdS h
      refine r_iald C w 6 (A 8 v2.toNatClampNeg) ge_X6_6 rfl hin5 dX6_isLate_15 ?_
      refine lv_iload_n hx hb dX6_isLate_16 rfl (lv_at hl 1 rfl) ?_
      refine lv_icmp_ne (tgt := 47) hx hb dX6_isLate_17 (by decide) (fun c6 => ?_) (fun c6 => ?_)
      · rw [if_neg c6] at h
        refine lv_iinc (v := v2 + 1) (lv' := [(2, .int (v2 + 1)), (0, .ref (ad 0)), (1, .int v1)]) hx hb dX6_isLate_47 hl (k := 2) rfl rfl (by decide) rfl (fun ls hl => ?_)
        refine lv_goto (tgt := 2) hx hb dX6_isLate_50 (by decide) ?_
        exact ih v1 (v2 + 1) h _ _ w _ (lv_sub hl [1, 2, 0] rfl)
      · rw [if_pos c6] at h
        refine lv_aload_n hx hb dX6_isLate_20 rfl (lv_at hl 0 rfl) ?_
        refine r_get C w 0 6 11 (.ref (ad 9)) ge_X6_0 rfl inX6 (by decide) tt_555 rfl dX6_isLate_21 ?_
        refine lv_iload_n hx hb dX6_isLate_24 rfl (lv_at hl 2 rfl) ?_
        obtain ⟨hin7, h⟩ := gdS h
        refine r_zald C w 9 (A 11 v2.toNatClampNeg) ge_X6_9 rfl hin7 dX6_isLate_25 ?_
        refine lv_if_eq (tgt := 47) hx hb dX6_isLate_26 (by decide) (fun c8 => ?_) (fun c8 => ?_)
        · rw [if_pos c8] at h
          refine lv_iinc (v := v2 + 1) (lv' := [(2, .int (v2 + 1)), (0, .ref (ad 0)), (1, .int v1)]) hx hb dX6_isLate_47 hl (k := 2) rfl rfl (by decide) rfl (fun ls hl => ?_)
          refine lv_goto (tgt := 2) hx hb dX6_isLate_50 (by decide) ?_
          exact ih v1 (v2 + 1) h _ _ w _ (lv_sub hl [1, 2, 0] rfl)
        · rw [if_neg c8] at h
          refine lv_aload_n hx hb dX6_isLate_29 rfl (lv_at hl 0 rfl) ?_
          refine r_get C w 0 6 0 (.int (I 0)) ge_X6_0 rfl inX6 (by decide) tt_544 rfl dX6_isLate_30 ?_
          refine lv_aload_n hx hb dX6_isLate_33 rfl (lv_at hl 0 rfl) ?_
          refine r_get C w 0 6 10 (.ref (ad 8)) ge_X6_0 rfl inX6 (by decide) tt_554 rfl dX6_isLate_34 ?_
          refine lv_iload_n hx hb dX6_isLate_37 rfl (lv_at hl 2 rfl) ?_
          obtain ⟨hin9, h⟩ := gdS h
          refine r_iald C w 8 (A 10 v2.toNatClampNeg) ge_X6_8 rfl hin9 dX6_isLate_38 ?_
          refine lv_bipush (v := (100)) hx hb dX6_isLate_39 (by decide) ?_
          refine lv_iadd hx hb dX6_isLate_41 ?_
          refine lv_icmp_lt (tgt := 47) hx hb dX6_isLate_42 (by decide) (fun c10 => ?_) (fun c10 => ?_)
          · rw [if_pos c10] at h
            refine lv_iinc (v := v2 + 1) (lv' := [(2, .int (v2 + 1)), (0, .ref (ad 0)), (1, .int v1)]) hx hb dX6_isLate_47 hl (k := 2) rfl rfl (by decide) rfl (fun ls hl => ?_)
            refine lv_goto (tgt := 2) hx hb dX6_isLate_50 (by decide) ?_
            exact ih v1 (v2 + 1) h _ _ w _ (lv_sub hl [1, 2, 0] rfl)
          · rw [if_neg c10] at h
            refine lv_iconst (v := 1) hx hb dX6_isLate_45 (by decide) ?_
            cases h
            exact ret_Z C w (Or.inr rfl) rfl rfl dX6_isLate_46
set_option maxHeartbeats 4000000 in
set_option maxRecDepth 100000 in
theorem c_X6_isLate (l : Launch) (G : GG) (ad : Nat → Nat) (sz : Nat) (N : Nat) (I : Nat → Int32) (A : Nat → Nat → Int32) (J : Nat → Nat → Int64) (a1 : Int32) (r : Int32) (h : f_X6_isLate N I A J a1 = some r) : CtI l yX6_isLate cX6_isLate 3 (some .boolean) { frames := 0, cells := 0, slots := 0, locals := 0 } G [.ref (ad 0), .int a1] (w_X6 G ad I A J) (w_X6 G ad I A J) sz r := by
  refine ct_of (by decide) (Nat.le_of_ble_eq_true rfl) (fun p e s m below meth c ls C w hsz hl => ?_)
  have hx := C.1
  have hb := C.2.1
  have hl : lv_has ls 3 [(0, .ref (ad 0)), (1, .int a1)] := hl
  unfold f_X6_isLate at h
  refine lv_iconst (v := 0) hx hb dX6_isLate_0 (by decide) ?_
  refine lv_istore_n (lv' := [(2, .int 0), (0, .ref (ad 0)), (1, .int a1)]) hx hb dX6_isLate_1 rfl hl (by decide) rfl (fun ls hl => ?_)
  exact w_X6_isLate_2 C N N a1 0 h _ _ w _ (lv_sub hl [1, 2, 0] rfl)
set_option maxHeartbeats 4000000 in
set_option maxRecDepth 100000 in
theorem c_X6_glass (l : Launch) (G : GG) (ad : Nat → Nat) (sz : Nat) (N : Nat) (I : Nat → Int32) (A : Nat → Nat → Int32) (J : Nat → Nat → Int64) (a1 : Int32) (a2 : Int32) (a3 : Int32) (r : Int32) (I' : Nat → Int32) (A' : Nat → Nat → Int32) (J' : Nat → Nat → Int64) (h : f_X6_glass N I A J a1 a2 a3 = some (r, I', A', J')) : CtI l yX6_glass cX6_glass 4 (some .int) { frames := 3, cells := 0, slots := 0, locals := 76 } G [.ref (ad 0), .int a1, .int a2, .int a3] (w_X6 G ad I A J) (w_X6 G ad I' A' J') sz r := by
  refine ct_of (by decide) (Nat.le_of_ble_eq_true rfl) (fun p e s m below meth c ls C w hsz hl => ?_)
  have hx := C.1
  have hb := C.2.1
  have hl : lv_has ls 4 [(0, .ref (ad 0)), (1, .int a1), (2, .int a2), (3, .int a3)] := hl
  unfold f_X6_glass at h
  refine lv_iload_n hx hb dX6_glass_0 rfl (lv_at hl 1 rfl) ?_
  obtain ⟨x13, hx13, h⟩ := bdS h
  have w0 : WD G _ ([] ++ ([] ++ (w_X6 G ad I A J))) s _ _ := w
  refine cl_i (wc' := []) w0 (run_S (As := [.int a1]) (rest := []) C w0 (c_X6_isUser l G  _ a1 x13 hx13) mt_X6_isUser tt_638 rfl rfl ⟨Nat.le_of_ble_eq_true rfl, Nat.le_of_ble_eq_true rfl⟩ hl.1 (Nat.le_of_ble_eq_true rfl) dX6_glass_1 ⟨Nat.le_of_ble_eq_true rfl, Nat.le_of_ble_eq_true rfl⟩) (fun H locs w => ?_)
  have w : WD G _ (w_X6 G ad I A J) s H locs := w
  refine lv_if_eq (tgt := 31) hx hb dX6_glass_4 (by decide) (fun c14 => ?_) (fun c14 => ?_)
  · rw [if_pos c14] at h
    refine lv_bipush (v := (-2)) hx hb dX6_glass_31 (by decide) ?_
    cases h
    exact ret_I C w rfl rfl dX6_glass_33
  · rw [if_neg c14] at h
    refine lv_iload_n hx hb dX6_glass_7 rfl (lv_at hl 2 rfl) ?_
    refine lv_iconst (v := 0) hx hb dX6_glass_8 (by decide) ?_
    refine lv_aload_n hx hb dX6_glass_9 rfl (lv_at hl 0 rfl) ?_
    refine r_get C w 0 6 5 (.int (I 5)) ge_X6_0 rfl inX6 (by decide) tt_549 rfl dX6_glass_10 ?_
    refine lv_iconst (v := 1) hx hb dX6_glass_13 (by decide) ?_
    refine lv_isub hx hb dX6_glass_14 ?_
    obtain ⟨x15, hx15, h⟩ := bdS h
    have w0 : WD G _ ([] ++ ([] ++ (w_X6 G ad I A J))) s _ _ := w
    refine cl_i (wc' := []) w0 (run_S (As := [.int a2, .int 0, .int ((I 5) - 1)]) (rest := []) C w0 (c_X6_isIn l G  _ a2 0 ((I 5) - 1) x15 hx15) mt_X6_isIn tt_630 rfl rfl ⟨Nat.le_of_ble_eq_true rfl, Nat.le_of_ble_eq_true rfl⟩ hl.1 (Nat.le_of_ble_eq_true rfl) dX6_glass_15 ⟨Nat.le_of_ble_eq_true rfl, Nat.le_of_ble_eq_true rfl⟩) (fun H locs w => ?_)
    have w : WD G _ (w_X6 G ad I A J) s H locs := w
    refine lv_if_eq (tgt := 31) hx hb dX6_glass_18 (by decide) (fun c16 => ?_) (fun c16 => ?_)
    · rw [if_pos c16] at h
      refine lv_bipush (v := (-2)) hx hb dX6_glass_31 (by decide) ?_
      cases h
      exact ret_I C w rfl rfl dX6_glass_33
    · rw [if_neg c16] at h
      refine lv_iload_n hx hb dX6_glass_21 rfl (lv_at hl 3 rfl) ?_
      refine lv_iconst (v := 1) hx hb dX6_glass_22 (by decide) ?_
      refine lv_bipush (v := (100)) hx hb dX6_glass_23 (by decide) ?_
      obtain ⟨x17, hx17, h⟩ := bdS h
      have w0 : WD G _ ([] ++ ([] ++ (w_X6 G ad I A J))) s _ _ := w
      refine cl_i (wc' := []) w0 (run_S (As := [.int a3, .int 1, .int 100]) (rest := []) C w0 (c_X6_isIn l G  _ a3 1 100 x17 hx17) mt_X6_isIn tt_630 rfl rfl ⟨Nat.le_of_ble_eq_true rfl, Nat.le_of_ble_eq_true rfl⟩ hl.1 (Nat.le_of_ble_eq_true rfl) dX6_glass_25 ⟨Nat.le_of_ble_eq_true rfl, Nat.le_of_ble_eq_true rfl⟩) (fun H locs w => ?_)
      have w : WD G _ (w_X6 G ad I A J) s H locs := w
      refine lv_if_ne (tgt := 34) hx hb dX6_glass_28 (by decide) (fun c18 => ?_) (fun c18 => ?_)
      · rw [if_neg c18] at h
        refine lv_aload_n hx hb dX6_glass_34 rfl (lv_at hl 0 rfl) ?_
        refine lv_iload_n hx hb dX6_glass_35 rfl (lv_at hl 1 rfl) ?_
        refine lv_iload_n hx hb dX6_glass_36 rfl (lv_at hl 2 rfl) ?_
        obtain ⟨x19, hx19, h⟩ := bdS h
        have w0 := w.z
        refine cl_i (wc' := (w_X6 G ad I A J)) w0 (run_V (As := [.int a1, .int a2]) (rest := []) C w0 (c_X6_isWalled l G ad  _ N I A J a1 a2 x19 hx19) mt_X6_isWalled tt_657 6 rfl rfl rfl rfl ⟨Nat.le_of_ble_eq_true rfl, Nat.le_of_ble_eq_true rfl⟩ hl.1 (Nat.le_of_ble_eq_true rfl) dX6_glass_37 ⟨Nat.le_of_ble_eq_true rfl, Nat.le_of_ble_eq_true rfl⟩) (fun H locs w => ?_)
        have w := w.uz
        refine lv_if_ne (tgt := 46) hx hb dX6_glass_40 (by decide) (fun c20 => ?_) (fun c20 => ?_)
        · rw [if_neg c20] at h
          refine lv_aload_n hx hb dX6_glass_46 rfl (lv_at hl 0 rfl) ?_
          refine lv_iload_n hx hb dX6_glass_47 rfl (lv_at hl 1 rfl) ?_
          refine lv_iload_n hx hb dX6_glass_48 rfl (lv_at hl 2 rfl) ?_
          obtain ⟨x21, hx21, h⟩ := bdS h
          have w0 := w.z
          refine cl_i (wc' := (w_X6 G ad I A J)) w0 (run_V (As := [.int a1, .int a2]) (rest := []) C w0 (c_X6_hasGlass l G ad  _ N I A J a1 a2 x21 hx21) mt_X6_hasGlass tt_665 6 rfl rfl rfl rfl ⟨Nat.le_of_ble_eq_true rfl, Nat.le_of_ble_eq_true rfl⟩ hl.1 (Nat.le_of_ble_eq_true rfl) dX6_glass_49 ⟨Nat.le_of_ble_eq_true rfl, Nat.le_of_ble_eq_true rfl⟩) (fun H locs w => ?_)
          have w := w.uz
          refine lv_if_eq (tgt := 58) hx hb dX6_glass_52 (by decide) (fun c22 => ?_) (fun c22 => ?_)
          · rw [if_pos c22] at h
            refine lv_aload_n hx hb dX6_glass_58 rfl (lv_at hl 0 rfl) ?_
            refine lv_iload_n hx hb dX6_glass_59 rfl (lv_at hl 1 rfl) ?_
            obtain ⟨x23, hx23, h⟩ := bdS h
            have w0 := w.z
            refine cl_i (wc' := (w_X6 G ad I A J)) w0 (run_V (As := [.int a1]) (rest := []) C w0 (c_X6_duties l G ad  _ N I A J a1 x23 hx23) mt_X6_duties tt_691 6 rfl rfl rfl rfl ⟨Nat.le_of_ble_eq_true rfl, Nat.le_of_ble_eq_true rfl⟩ hl.1 (Nat.le_of_ble_eq_true rfl) dX6_glass_60 ⟨Nat.le_of_ble_eq_true rfl, Nat.le_of_ble_eq_true rfl⟩) (fun H locs w => ?_)
            have w := w.uz
            refine lv_iconst (v := 3) hx hb dX6_glass_63 (by decide) ?_
            refine lv_icmp_ge (tgt := 75) hx hb dX6_glass_64 (by decide) (fun c24 => ?_) (fun c24 => ?_)
            · rw [if_pos c24] at h
              refine lv_bipush (v := (-15)) hx hb dX6_glass_75 (by decide) ?_
              cases h
              exact ret_I C w rfl rfl dX6_glass_77
            · rw [if_neg c24] at h
              refine lv_aload_n hx hb dX6_glass_67 rfl (lv_at hl 0 rfl) ?_
              refine lv_iload_n hx hb dX6_glass_68 rfl (lv_at hl 1 rfl) ?_
              obtain ⟨x25, hx25, h⟩ := bdS h
              have w0 := w.z
              refine cl_i (wc' := (w_X6 G ad I A J)) w0 (run_V (As := [.int a1]) (rest := []) C w0 (c_X6_isLate l G ad  _ N I A J a1 x25 hx25) mt_X6_isLate tt_695 6 rfl rfl rfl rfl ⟨Nat.le_of_ble_eq_true rfl, Nat.le_of_ble_eq_true rfl⟩ hl.1 (Nat.le_of_ble_eq_true rfl) dX6_glass_69 ⟨Nat.le_of_ble_eq_true rfl, Nat.le_of_ble_eq_true rfl⟩) (fun H locs w => ?_)
              have w := w.uz
              refine lv_if_eq (tgt := 78) hx hb dX6_glass_72 (by decide) (fun c26 => ?_) (fun c26 => ?_)
              · rw [if_pos c26] at h
                refine lv_aload_n hx hb dX6_glass_78 rfl (lv_at hl 0 rfl) ?_
                refine r_get C w 0 6 12 (.int (I 12)) ge_X6_0 rfl inX6 (by decide) tt_556 rfl dX6_glass_79 ?_
                refine lv_bipush (v := (40)) hx hb dX6_glass_82 (by decide) ?_
                refine lv_icmp_eq (tgt := 97) hx hb dX6_glass_84 (by decide) (fun c27 => ?_) (fun c27 => ?_)
                · rw [if_pos c27] at h
                  refine lv_bipush (v := (-3)) hx hb dX6_glass_97 (by decide) ?_
                  cases h
                  exact ret_I C w rfl rfl dX6_glass_99
                · rw [if_neg c27] at h
                  refine lv_aload_n hx hb dX6_glass_87 rfl (lv_at hl 0 rfl) ?_
                  refine r_get C w 0 6 25 (.int (I 25)) ge_X6_0 rfl inX6 (by decide) tt_569 rfl dX6_glass_88 ?_
                  refine lv_sipush (v := (240)) hx hb dX6_glass_91 (by decide) ?_
                  refine lv_icmp_ne (tgt := 100) hx hb dX6_glass_94 (by decide) (fun c28 => ?_) (fun c28 => ?_)
                  · rw [if_neg c28] at h
                    refine lv_aload_n hx hb dX6_glass_100 rfl (lv_at hl 0 rfl) ?_
                    refine r_get C w 0 6 8 (.ref (ad 6)) ge_X6_0 rfl inX6 (by decide) tt_552 rfl dX6_glass_101 ?_
                    refine lv_aload_n hx hb dX6_glass_104 rfl (lv_at hl 0 rfl) ?_
                    refine r_get C w 0 6 12 (.int (I 12)) ge_X6_0 rfl inX6 (by decide) tt_556 rfl dX6_glass_105 ?_
                    refine lv_iload_n hx hb dX6_glass_108 rfl (lv_at hl 1 rfl) ?_
                    obtain ⟨hin29, h⟩ := gdS h
                    refine r_iast C w 6 (w_X6 G ad I (aS A 8 (I 12).toNatClampNeg a1) J) ge_X6_6 hin29 st_X6_6 dX6_glass_109 (fun H locs w => ?_)
                    refine lv_aload_n hx hb dX6_glass_110 rfl (lv_at hl 0 rfl) ?_
                    refine r_get C w 0 6 9 (.ref (ad 7)) ge_X6_0 rfl inX6 (by decide) tt_553 rfl dX6_glass_111 ?_
                    refine lv_aload_n hx hb dX6_glass_114 rfl (lv_at hl 0 rfl) ?_
                    refine r_get C w 0 6 12 (.int (I 12)) ge_X6_0 rfl inX6 (by decide) tt_556 rfl dX6_glass_115 ?_
                    refine lv_iload_n hx hb dX6_glass_118 rfl (lv_at hl 2 rfl) ?_
                    obtain ⟨hin30, h⟩ := gdS h
                    refine r_iast C w 7 (w_X6 G ad I (aS (aS A 8 (I 12).toNatClampNeg a1) 9 (I 12).toNatClampNeg a2) J) ge_X6_7 hin30 st_X6_7 dX6_glass_119 (fun H locs w => ?_)
                    refine lv_aload_n hx hb dX6_glass_120 rfl (lv_at hl 0 rfl) ?_
                    refine r_get C w 0 6 10 (.ref (ad 8)) ge_X6_0 rfl inX6 (by decide) tt_554 rfl dX6_glass_121 ?_
                    refine lv_aload_n hx hb dX6_glass_124 rfl (lv_at hl 0 rfl) ?_
                    refine r_get C w 0 6 12 (.int (I 12)) ge_X6_0 rfl inX6 (by decide) tt_556 rfl dX6_glass_125 ?_
                    refine lv_aload_n hx hb dX6_glass_128 rfl (lv_at hl 0 rfl) ?_
                    refine r_get C w 0 6 0 (.int (I 0)) ge_X6_0 rfl inX6 (by decide) tt_544 rfl dX6_glass_129 ?_
                    refine lv_iload_n hx hb dX6_glass_132 rfl (lv_at hl 3 rfl) ?_
                    refine lv_iadd hx hb dX6_glass_133 ?_
                    obtain ⟨hin31, h⟩ := gdS h
                    refine r_iast C w 8 (w_X6 G ad I (aS (aS (aS A 8 (I 12).toNatClampNeg a1) 9 (I 12).toNatClampNeg a2) 10 (I 12).toNatClampNeg ((I 0) + a3)) J) ge_X6_8 hin31 st_X6_8 dX6_glass_134 (fun H locs w => ?_)
                    refine lv_aload_n hx hb dX6_glass_135 rfl (lv_at hl 0 rfl) ?_
                    refine r_get C w 0 6 11 (.ref (ad 9)) ge_X6_0 rfl inX6 (by decide) tt_555 rfl dX6_glass_136 ?_
                    refine lv_aload_n hx hb dX6_glass_139 rfl (lv_at hl 0 rfl) ?_
                    refine r_get C w 0 6 12 (.int (I 12)) ge_X6_0 rfl inX6 (by decide) tt_556 rfl dX6_glass_140 ?_
                    refine lv_iconst (v := 1) hx hb dX6_glass_143 (by decide) ?_
                    obtain ⟨hin32, h⟩ := gdS h
                    refine r_zast C w 9 (w_X6 G ad I (aS (aS (aS (aS A 8 (I 12).toNatClampNeg a1) 9 (I 12).toNatClampNeg a2) 10 (I 12).toNatClampNeg ((I 0) + a3)) 11 (I 12).toNatClampNeg 1) J) ge_X6_9 (by decide) hin32 st_X6_9 dX6_glass_144 (fun H locs w => ?_)
                    refine lv_aload_n hx hb dX6_glass_145 rfl (lv_at hl 0 rfl) ?_
                    refine lv_iconst (v := 3) hx hb dX6_glass_146 (by decide) ?_
                    refine lv_iload_n hx hb dX6_glass_147 rfl (lv_at hl 1 rfl) ?_
                    refine lv_aload_n hx hb dX6_glass_148 rfl (lv_at hl 0 rfl) ?_
                    refine r_get C w 0 6 12 (.int (I 12)) ge_X6_0 rfl inX6 (by decide) tt_556 rfl dX6_glass_149 ?_
                    refine lv_iload_n hx hb dX6_glass_152 rfl (lv_at hl 2 rfl) ?_
                    obtain ⟨x33, hx33, h⟩ := bdS h
                    have w0 := w.z
                    refine cl_v (wc' := (w_X6 G ad x33.1 x33.2.1 x33.2.2)) w0 (run_V (As := [.int 3, .int a1, .int (I 12), .int a2]) (rest := []) C w0 (c_X6_enter l G ad  _ N I (aS (aS (aS (aS A 8 (I 12).toNatClampNeg a1) 9 (I 12).toNatClampNeg a2) 10 (I 12).toNatClampNeg ((I 0) + a3)) 11 (I 12).toNatClampNeg 1) J 3 a1 (I 12) a2 x33.1 x33.2.1 x33.2.2 hx33) mt_X6_enter tt_669 6 rfl rfl rfl rfl ⟨Nat.le_of_ble_eq_true rfl, Nat.le_of_ble_eq_true rfl⟩ hl.1 (Nat.le_of_ble_eq_true rfl) dX6_glass_153 ⟨Nat.le_of_ble_eq_true rfl, Nat.le_of_ble_eq_true rfl⟩) (fun H locs w => ?_)
                    have w := w.uz
                    refine lv_aload_n hx hb dX6_glass_156 rfl (lv_at hl 0 rfl) ?_
                    refine lv_dup hx hb dX6_glass_157 rfl ?_
                    refine r_get C w 0 6 12 (.int (x33.1 12)) ge_X6_0 rfl inX6 (by decide) tt_556 rfl dX6_glass_158 ?_
                    refine lv_iconst (v := 1) hx hb dX6_glass_161 (by decide) ?_
                    refine lv_iadd hx hb dX6_glass_162 ?_
                    refine r_put C w 0 6 12 (w_X6 G ad (upd x33.1 12 ((x33.1 12) + 1)) x33.2.1 x33.2.2) tyX6_ok nmX6 ge_X6_0 rfl inX6 (by decide) tt_556 rfl rfl rfl (Nat.le_of_ble_eq_true rfl) st_X6_0_12 dX6_glass_163 (fun H locs w => ?_)
                    refine lv_aload_n hx hb dX6_glass_166 rfl (lv_at hl 0 rfl) ?_
                    refine r_get C w 0 6 12 (.int ((upd x33.1 12 ((x33.1 12) + 1)) 12)) ge_X6_0 rfl inX6 (by decide) tt_556 rfl dX6_glass_167 ?_
                    refine lv_iconst (v := 1) hx hb dX6_glass_170 (by decide) ?_
                    refine lv_isub hx hb dX6_glass_171 ?_
                    cases h
                    exact ret_I C w rfl rfl dX6_glass_172
                  · rw [if_pos c28] at h
                    refine lv_bipush (v := (-3)) hx hb dX6_glass_97 (by decide) ?_
                    cases h
                    exact ret_I C w rfl rfl dX6_glass_99
              · rw [if_neg c26] at h
                refine lv_bipush (v := (-15)) hx hb dX6_glass_75 (by decide) ?_
                cases h
                exact ret_I C w rfl rfl dX6_glass_77
          · rw [if_neg c22] at h
            refine lv_bipush (v := (-14)) hx hb dX6_glass_55 (by decide) ?_
            cases h
            exact ret_I C w rfl rfl dX6_glass_57
        · rw [if_pos c20] at h
          refine lv_bipush (v := (-13)) hx hb dX6_glass_43 (by decide) ?_
          cases h
          exact ret_I C w rfl rfl dX6_glass_45
      · rw [if_pos c18] at h
        refine lv_bipush (v := (-2)) hx hb dX6_glass_31 (by decide) ?_
        cases h
        exact ret_I C w rfl rfl dX6_glass_33
set_option maxHeartbeats 4000000 in
set_option maxRecDepth 100000 in
theorem c_X6_takeOff (l : Launch) (G : GG) (ad : Nat → Nat) (sz : Nat) (N : Nat) (I : Nat → Int32) (A : Nat → Nat → Int32) (J : Nat → Nat → Int64) (a1 : Int32) (a2 : Int32) (r : Int32) (I' : Nat → Int32) (A' : Nat → Nat → Int32) (J' : Nat → Nat → Int64) (h : f_X6_takeOff N I A J a1 a2 = some (r, I', A', J')) : CtI l yX6_takeOff cX6_takeOff 3 (some .int) { frames := 3, cells := 0, slots := 0, locals := 76 } G [.ref (ad 0), .int a1, .int a2] (w_X6 G ad I A J) (w_X6 G ad I' A' J') sz r := by
  refine ct_of (by decide) (Nat.le_of_ble_eq_true rfl) (fun p e s m below meth c ls C w hsz hl => ?_)
  have hx := C.1
  have hb := C.2.1
  have hl : lv_has ls 3 [(0, .ref (ad 0)), (1, .int a1), (2, .int a2)] := hl
  unfold f_X6_takeOff at h
  refine lv_iload_n hx hb dX6_takeOff_0 rfl (lv_at hl 1 rfl) ?_
  refine lv_iconst (v := 0) hx hb dX6_takeOff_1 (by decide) ?_
  refine lv_aload_n hx hb dX6_takeOff_2 rfl (lv_at hl 0 rfl) ?_
  refine r_get C w 0 6 12 (.int (I 12)) ge_X6_0 rfl inX6 (by decide) tt_556 rfl dX6_takeOff_3 ?_
  refine lv_iconst (v := 1) hx hb dX6_takeOff_6 (by decide) ?_
  refine lv_isub hx hb dX6_takeOff_7 ?_
  obtain ⟨x9, hx9, h⟩ := bdS h
  have w0 : WD G _ ([] ++ ([] ++ (w_X6 G ad I A J))) s _ _ := w
  refine cl_i (wc' := []) w0 (run_S (As := [.int a1, .int 0, .int ((I 12) - 1)]) (rest := []) C w0 (c_X6_isIn l G  _ a1 0 ((I 12) - 1) x9 hx9) mt_X6_isIn tt_630 rfl rfl ⟨Nat.le_of_ble_eq_true rfl, Nat.le_of_ble_eq_true rfl⟩ hl.1 (Nat.le_of_ble_eq_true rfl) dX6_takeOff_8 ⟨Nat.le_of_ble_eq_true rfl, Nat.le_of_ble_eq_true rfl⟩) (fun H locs w => ?_)
  have w : WD G _ (w_X6 G ad I A J) s H locs := w
  refine lv_if_eq (tgt := 30) hx hb dX6_takeOff_11 (by decide) (fun c10 => ?_) (fun c10 => ?_)
  · rw [if_pos c10] at h
    refine lv_bipush (v := (-2)) hx hb dX6_takeOff_30 (by decide) ?_
    cases h
    exact ret_I C w rfl rfl dX6_takeOff_32
  · rw [if_neg c10] at h
    refine lv_iload_n hx hb dX6_takeOff_14 rfl (lv_at hl 2 rfl) ?_
    obtain ⟨x11, hx11, h⟩ := bdS h
    have w0 : WD G _ ([] ++ ([] ++ (w_X6 G ad I A J))) s _ _ := w
    refine cl_i (wc' := []) w0 (run_S (As := [.int a2]) (rest := []) C w0 (c_X6_isUser l G  _ a2 x11 hx11) mt_X6_isUser tt_638 rfl rfl ⟨Nat.le_of_ble_eq_true rfl, Nat.le_of_ble_eq_true rfl⟩ hl.1 (Nat.le_of_ble_eq_true rfl) dX6_takeOff_15 ⟨Nat.le_of_ble_eq_true rfl, Nat.le_of_ble_eq_true rfl⟩) (fun H locs w => ?_)
    have w : WD G _ (w_X6 G ad I A J) s H locs := w
    refine lv_if_eq (tgt := 30) hx hb dX6_takeOff_18 (by decide) (fun c12 => ?_) (fun c12 => ?_)
    · rw [if_pos c12] at h
      refine lv_bipush (v := (-2)) hx hb dX6_takeOff_30 (by decide) ?_
      cases h
      exact ret_I C w rfl rfl dX6_takeOff_32
    · rw [if_neg c12] at h
      refine lv_aload_n hx hb dX6_takeOff_21 rfl (lv_at hl 0 rfl) ?_
      refine r_get C w 0 6 11 (.ref (ad 9)) ge_X6_0 rfl inX6 (by decide) tt_555 rfl dX6_takeOff_22 ?_
      refine lv_iload_n hx hb dX6_takeOff_25 rfl (lv_at hl 1 rfl) ?_
      obtain ⟨hin13, h⟩ := gdS h
      refine r_zald C w 9 (A 11 a1.toNatClampNeg) ge_X6_9 rfl hin13 dX6_takeOff_26 ?_
      refine lv_if_ne (tgt := 33) hx hb dX6_takeOff_27 (by decide) (fun c14 => ?_) (fun c14 => ?_)
      · rw [if_neg c14] at h
        refine lv_aload_n hx hb dX6_takeOff_33 rfl (lv_at hl 0 rfl) ?_
        refine r_get C w 0 6 1 (.ref (ad 1)) ge_X6_0 rfl inX6 (by decide) tt_545 rfl dX6_takeOff_34 ?_
        refine lv_iload_n hx hb dX6_takeOff_37 rfl (lv_at hl 2 rfl) ?_
        obtain ⟨hin15, h⟩ := gdS h
        refine r_iald C w 1 (A 1 a2.toNatClampNeg) ge_X6_1 rfl hin15 dX6_takeOff_38 ?_
        refine lv_bipush (v := (7)) hx hb dX6_takeOff_39 (by decide) ?_
        refine lv_ishr hx hb dX6_takeOff_41 ?_
        refine lv_iconst (v := 1) hx hb dX6_takeOff_42 (by decide) ?_
        refine lv_iand hx hb dX6_takeOff_43 ?_
        refine lv_if_ne (tgt := 50) hx hb dX6_takeOff_44 (by decide) (fun c16 => ?_) (fun c16 => ?_)
        · rw [if_neg c16] at h
          refine lv_aload_n hx hb dX6_takeOff_50 rfl (lv_at hl 0 rfl) ?_
          refine r_get C w 0 6 8 (.ref (ad 6)) ge_X6_0 rfl inX6 (by decide) tt_552 rfl dX6_takeOff_51 ?_
          refine lv_iload_n hx hb dX6_takeOff_54 rfl (lv_at hl 1 rfl) ?_
          obtain ⟨hin17, h⟩ := gdS h
          refine r_iald C w 6 (A 8 a1.toNatClampNeg) ge_X6_6 rfl hin17 dX6_takeOff_55 ?_
          refine lv_iload_n hx hb dX6_takeOff_56 rfl (lv_at hl 2 rfl) ?_
          refine lv_icmp_ne (tgt := 63) hx hb dX6_takeOff_57 (by decide) (fun c18 => ?_) (fun c18 => ?_)
          · rw [if_neg c18] at h
            refine lv_aload_n hx hb dX6_takeOff_63 rfl (lv_at hl 0 rfl) ?_
            refine r_get C w 0 6 25 (.int (I 25)) ge_X6_0 rfl inX6 (by decide) tt_569 rfl dX6_takeOff_64 ?_
            refine lv_sipush (v := (240)) hx hb dX6_takeOff_67 (by decide) ?_
            refine lv_icmp_ne (tgt := 76) hx hb dX6_takeOff_70 (by decide) (fun c19 => ?_) (fun c19 => ?_)
            · rw [if_neg c19] at h
              refine lv_aload_n hx hb dX6_takeOff_76 rfl (lv_at hl 0 rfl) ?_
              refine r_get C w 0 6 11 (.ref (ad 9)) ge_X6_0 rfl inX6 (by decide) tt_555 rfl dX6_takeOff_77 ?_
              refine lv_iload_n hx hb dX6_takeOff_80 rfl (lv_at hl 1 rfl) ?_
              refine lv_iconst (v := 0) hx hb dX6_takeOff_81 (by decide) ?_
              obtain ⟨hin20, h⟩ := gdS h
              refine r_zast C w 9 (w_X6 G ad I (aS A 11 a1.toNatClampNeg 0) J) ge_X6_9 (by decide) hin20 st_X6_9 dX6_takeOff_82 (fun H locs w => ?_)
              refine lv_aload_n hx hb dX6_takeOff_83 rfl (lv_at hl 0 rfl) ?_
              refine lv_iconst (v := 4) hx hb dX6_takeOff_84 (by decide) ?_
              refine lv_iload_n hx hb dX6_takeOff_85 rfl (lv_at hl 2 rfl) ?_
              refine lv_iload_n hx hb dX6_takeOff_86 rfl (lv_at hl 1 rfl) ?_
              refine lv_iconst (v := 0) hx hb dX6_takeOff_87 (by decide) ?_
              obtain ⟨x21, hx21, h⟩ := bdS h
              have w0 := w.z
              refine cl_v (wc' := (w_X6 G ad x21.1 x21.2.1 x21.2.2)) w0 (run_V (As := [.int 4, .int a2, .int a1, .int 0]) (rest := []) C w0 (c_X6_enter l G ad  _ N I (aS A 11 a1.toNatClampNeg 0) J 4 a2 a1 0 x21.1 x21.2.1 x21.2.2 hx21) mt_X6_enter tt_669 6 rfl rfl rfl rfl ⟨Nat.le_of_ble_eq_true rfl, Nat.le_of_ble_eq_true rfl⟩ hl.1 (Nat.le_of_ble_eq_true rfl) dX6_takeOff_88 ⟨Nat.le_of_ble_eq_true rfl, Nat.le_of_ble_eq_true rfl⟩) (fun H locs w => ?_)
              have w := w.uz
              refine lv_iconst (v := 0) hx hb dX6_takeOff_91 (by decide) ?_
              refine lv_aload_n hx hb dX6_takeOff_92 rfl (lv_at hl 0 rfl) ?_
              refine r_get C w 0 6 10 (.ref (ad 8)) ge_X6_0 rfl inX6 (by decide) tt_554 rfl dX6_takeOff_93 ?_
              refine lv_iload_n hx hb dX6_takeOff_96 rfl (lv_at hl 1 rfl) ?_
              obtain ⟨hin22, h⟩ := gdS h
              refine r_iald C w 8 (x21.2.1 10 a1.toNatClampNeg) ge_X6_8 rfl hin22 dX6_takeOff_97 ?_
              refine lv_bipush (v := (100)) hx hb dX6_takeOff_98 (by decide) ?_
              refine lv_iadd hx hb dX6_takeOff_100 ?_
              refine lv_aload_n hx hb dX6_takeOff_101 rfl (lv_at hl 0 rfl) ?_
              refine r_get C w 0 6 0 (.int (x21.1 0)) ge_X6_0 rfl inX6 (by decide) tt_544 rfl dX6_takeOff_102 ?_
              refine lv_isub hx hb dX6_takeOff_105 ?_
              refine va_mmax hx hb (C.2.2.2.1.trans hl.1.symm) C.2.2.2.2.1 (C.ts tt_703) (C.ts tt_322) (C.ts tt_58) (C.ts tt_323) (Nat.le_of_ble_eq_true rfl) (Nat.le_of_ble_eq_true rfl) (Nat.le_of_ble_eq_true rfl) (Nat.le_of_ble_eq_true rfl) dX6_takeOff_106 ?_
              refine W.eq (g2 := F0 m 109 ls [.int (iMax 0 (((x21.2.1 10 a1.toNatClampNeg) + 100) - (x21.1 0)))]) rfl ?_
              cases h
              exact ret_I C w rfl rfl dX6_takeOff_109
            · rw [if_pos c19] at h
              refine lv_bipush (v := (-3)) hx hb dX6_takeOff_73 (by decide) ?_
              cases h
              exact ret_I C w rfl rfl dX6_takeOff_75
          · rw [if_pos c18] at h
            refine lv_bipush (v := (-19)) hx hb dX6_takeOff_60 (by decide) ?_
            cases h
            exact ret_I C w rfl rfl dX6_takeOff_62
        · rw [if_pos c16] at h
          refine lv_bipush (v := (-18)) hx hb dX6_takeOff_47 (by decide) ?_
          cases h
          exact ret_I C w rfl rfl dX6_takeOff_49
      · rw [if_pos c14] at h
        refine lv_bipush (v := (-2)) hx hb dX6_takeOff_30 (by decide) ?_
        cases h
        exact ret_I C w rfl rfl dX6_takeOff_32
set_option maxHeartbeats 4000000 in
set_option maxRecDepth 100000 in
theorem c_X6_kind (l : Launch) (G : GG) (ad : Nat → Nat) (sz : Nat) (I : Nat → Int32) (A : Nat → Nat → Int32) (J : Nat → Nat → Int64) (r : Int32) (I' : Nat → Int32) (A' : Nat → Nat → Int32) (J' : Nat → Nat → Int64) (h : f_X6_kind I A J = some (r, I', A', J')) : CtI l yX6_kind cX6_kind 1 (some .int) { frames := 0, cells := 0, slots := 0, locals := 0 } G [.ref (ad 0)] (w_X6 G ad I A J) (w_X6 G ad I' A' J') sz r := by
  refine ct_of (by decide) (Nat.le_of_ble_eq_true rfl) (fun p e s m below meth c ls C w hsz hl => ?_)
  have hx := C.1
  have hb := C.2.1
  have hl : lv_has ls 1 [(0, .ref (ad 0))] := hl
  unfold f_X6_kind at h
  refine lv_aload_n hx hb dX6_kind_0 rfl (lv_at hl 0 rfl) ?_
  refine r_get C w 0 6 19 (.int (I 19)) ge_X6_0 rfl inX6 (by decide) tt_563 rfl dX6_kind_1 ?_
  refine lv_iconst (v := 4) hx hb dX6_kind_4 (by decide) ?_
  refine lv_icmp_ne (tgt := 11) hx hb dX6_kind_5 (by decide) (fun c2 => ?_) (fun c2 => ?_)
  · rw [if_neg c2] at h
    refine lv_aload_n hx hb dX6_kind_11 rfl (lv_at hl 0 rfl) ?_
    refine r_get C w 0 6 18 (.ref (ad 15)) ge_X6_0 rfl inX6 (by decide) tt_562 rfl dX6_kind_12 ?_
    refine lv_aload_n hx hb dX6_kind_15 rfl (lv_at hl 0 rfl) ?_
    refine r_get C w 0 6 19 (.int (I 19)) ge_X6_0 rfl inX6 (by decide) tt_563 rfl dX6_kind_16 ?_
    refine lv_bipush (v := (6)) hx hb dX6_kind_19 (by decide) ?_
    obtain ⟨hin3, h⟩ := gdS h
    refine r_iast C w 15 (w_X6 G ad I (aS A 18 (I 19).toNatClampNeg 6) J) ge_X6_15 hin3 st_X6_15 dX6_kind_21 (fun H locs w => ?_)
    refine lv_aload_n hx hb dX6_kind_22 rfl (lv_at hl 0 rfl) ?_
    refine lv_dup hx hb dX6_kind_23 rfl ?_
    refine r_get C w 0 6 19 (.int (I 19)) ge_X6_0 rfl inX6 (by decide) tt_563 rfl dX6_kind_24 ?_
    refine lv_iconst (v := 1) hx hb dX6_kind_27 (by decide) ?_
    refine lv_iadd hx hb dX6_kind_28 ?_
    refine r_put C w 0 6 19 (w_X6 G ad (upd I 19 ((I 19) + 1)) (aS A 18 (I 19).toNatClampNeg 6) J) tyX6_ok nmX6 ge_X6_0 rfl inX6 (by decide) tt_563 rfl rfl rfl (Nat.le_of_ble_eq_true rfl) st_X6_0_19 dX6_kind_29 (fun H locs w => ?_)
    refine lv_aload_n hx hb dX6_kind_32 rfl (lv_at hl 0 rfl) ?_
    refine r_get C w 0 6 19 (.int ((upd I 19 ((I 19) + 1)) 19)) ge_X6_0 rfl inX6 (by decide) tt_563 rfl dX6_kind_33 ?_
    refine lv_iconst (v := 1) hx hb dX6_kind_36 (by decide) ?_
    refine lv_isub hx hb dX6_kind_37 ?_
    cases h
    exact ret_I C w rfl rfl dX6_kind_38
  · rw [if_pos c2] at h
    refine lv_bipush (v := (-3)) hx hb dX6_kind_8 (by decide) ?_
    cases h
    exact ret_I C w rfl rfl dX6_kind_10
set_option maxHeartbeats 4000000 in
set_option maxRecDepth 100000 in
theorem w_X6_isFree_20 {p : Program} {l : Launch} {e : Env} {s : State} {m : MethodId} {args : Array Value} {below : List Frame} {meth : Method} {c : Code} {FA : Nat → Prop} {G : GG} {ad : Nat → Nat} {r : Int32} {I : Nat → Int32} {A : Nat → Nat → Int32} {J : Nat → Nat → Int64} (C : CX p m meth c s args yX6_isFree cX6_isFree 4 (some .boolean)) (N : Nat) : ∀ n : Nat, ∀ (v1 : Int32) (v2 : Int32) (v3 : Int32), f_X6_isFree_20 N I A J n v1 v2 v3 = some r → ∀ (H : Heap) (locs : List Loc), WD G FA (w_X6 G ad I A J) s H locs → ∀ ls : Array Slot, lv_has ls 4 [(0, .ref (ad 0)), (1, .int v1), (2, .int v2), (3, .int v3)] → W p l e { frames := 1, cells := 0, slots := 0, locals := 22 } s m args below meth c H locs 0 0 (EnI below G FA args s (w_X6 G ad I A J) r) (F0 m 20 ls []) := by
  have hx := C.1
  have hb := C.2.1
  intro n
  induction n with
  | zero =>
    intro v1 v2 v3 h
    cases h
  | succ n ih =>
    intro v1 v2 v3 h H locs w ls hl
    rw [f_X6_isFree_20] at h
    refine lv_iload_n hx hb dX6_isFree_20 rfl (lv_at hl 3 rfl) ?_
    refine lv_aload_n hx hb dX6_isFree_21 rfl (lv_at hl 0 rfl) ?_
    refine r_get C w 0 6 22 (.int (I 22)) ge_X6_0 rfl inX6 (by decide) tt_566 rfl dX6_isFree_22 ?_
    refine lv_icmp_ge (tgt := 54) hx hb dX6_isFree_25 (by decide) (fun c3 => ?_) (fun c3 => ?_)
    · rw [if_pos c3] at h
      refine lv_iload_n hx hb dX6_isFree_54 rfl (lv_at hl 2 rfl) ?_
      obtain ⟨hbz, h⟩ := gpS h
      cases h
      exact ret_Z C w hbz rfl rfl dX6_isFree_55
    · rw [if_neg c3] at h
      refine lv_iload_n hx hb dX6_isFree_28 rfl (lv_at hl 2 rfl) ?_
      refine lv_if_eq (tgt := 46) hx hb dX6_isFree_29 (by decide) (fun c4 => ?_) (fun c4 => ?_)
      · rw [if_pos c4] at h
        refine lv_iconst (v := 0) hx hb dX6_isFree_46 (by decide) ?_
        refine lv_istore_n (lv' := [(2, .int 0), (0, .ref (ad 0)), (1, .int v1), (3, .int v3)]) hx hb dX6_isFree_47 rfl hl (by decide) rfl (fun ls hl => ?_)
        refine lv_iinc (v := v3 + 1) (lv' := [(3, .int (v3 + 1)), (2, .int 0), (0, .ref (ad 0)), (1, .int v1)]) hx hb dX6_isFree_48 hl (k := 3) rfl rfl (by decide) rfl (fun ls hl => ?_)
        refine lv_goto (tgt := 20) hx hb dX6_isFree_51 (by decide) ?_
        exact ih v1 0 (v3 + 1) h _ _ w _ (lv_sub hl [2, 3, 1, 0] rfl)
      · rw [if_neg c4] at h
        refine lv_aload_n hx hb dX6_isFree_32 rfl (lv_at hl 0 rfl) ?_
        refine r_get C w 0 6 20 (.ref (ad 16)) ge_X6_0 rfl inX6 (by decide) tt_564 rfl dX6_isFree_33 ?_
        refine lv_iload_n hx hb dX6_isFree_36 rfl (lv_at hl 3 rfl) ?_
        obtain ⟨hin5, h⟩ := gdS h
        refine r_iald C w 16 (A 20 v3.toNatClampNeg) ge_X6_16 rfl hin5 dX6_isFree_37 ?_
        refine lv_iload_n hx hb dX6_isFree_38 rfl (lv_at hl 1 rfl) ?_
        refine lv_icmp_eq (tgt := 46) hx hb dX6_isFree_39 (by decide) (fun c6 => ?_) (fun c6 => ?_)
        · rw [if_pos c6] at h
          refine lv_iconst (v := 0) hx hb dX6_isFree_46 (by decide) ?_
          refine lv_istore_n (lv' := [(2, .int 0), (0, .ref (ad 0)), (1, .int v1), (3, .int v3)]) hx hb dX6_isFree_47 rfl hl (by decide) rfl (fun ls hl => ?_)
          refine lv_iinc (v := v3 + 1) (lv' := [(3, .int (v3 + 1)), (2, .int 0), (0, .ref (ad 0)), (1, .int v1)]) hx hb dX6_isFree_48 hl (k := 3) rfl rfl (by decide) rfl (fun ls hl => ?_)
          refine lv_goto (tgt := 20) hx hb dX6_isFree_51 (by decide) ?_
          exact ih v1 0 (v3 + 1) h _ _ w _ (lv_sub hl [2, 3, 1, 0] rfl)
        · rw [if_neg c6] at h
          refine lv_iconst (v := 1) hx hb dX6_isFree_42 (by decide) ?_
          refine lv_goto (tgt := 47) hx hb dX6_isFree_43 (by decide) ?_
          refine lv_istore_n (lv' := [(2, .int 1), (0, .ref (ad 0)), (1, .int v1), (3, .int v3)]) hx hb dX6_isFree_47 rfl hl (by decide) rfl (fun ls hl => ?_)
          refine lv_iinc (v := v3 + 1) (lv' := [(3, .int (v3 + 1)), (2, .int 1), (0, .ref (ad 0)), (1, .int v1)]) hx hb dX6_isFree_48 hl (k := 3) rfl rfl (by decide) rfl (fun ls hl => ?_)
          refine lv_goto (tgt := 20) hx hb dX6_isFree_51 (by decide) ?_
          exact ih v1 1 (v3 + 1) h _ _ w _ (lv_sub hl [2, 3, 1, 0] rfl)
set_option maxHeartbeats 4000000 in
set_option maxRecDepth 100000 in
theorem c_X6_isFree (l : Launch) (G : GG) (ad : Nat → Nat) (sz : Nat) (N : Nat) (I : Nat → Int32) (A : Nat → Nat → Int32) (J : Nat → Nat → Int64) (a1 : Int32) (r : Int32) (h : f_X6_isFree N I A J a1 = some r) : CtI l yX6_isFree cX6_isFree 4 (some .boolean) { frames := 1, cells := 0, slots := 0, locals := 22 } G [.ref (ad 0), .int a1] (w_X6 G ad I A J) (w_X6 G ad I A J) sz r := by
  refine ct_of (by decide) (Nat.le_of_ble_eq_true rfl) (fun p e s m below meth c ls C w hsz hl => ?_)
  have hx := C.1
  have hb := C.2.1
  have hl : lv_has ls 4 [(0, .ref (ad 0)), (1, .int a1)] := hl
  unfold f_X6_isFree at h
  refine lv_iload_n hx hb dX6_isFree_0 rfl (lv_at hl 1 rfl) ?_
  refine lv_iconst (v := 0) hx hb dX6_isFree_1 (by decide) ?_
  refine lv_aload_n hx hb dX6_isFree_2 rfl (lv_at hl 0 rfl) ?_
  refine r_get C w 0 6 19 (.int (I 19)) ge_X6_0 rfl inX6 (by decide) tt_563 rfl dX6_isFree_3 ?_
  refine lv_iconst (v := 1) hx hb dX6_isFree_6 (by decide) ?_
  refine lv_isub hx hb dX6_isFree_7 ?_
  obtain ⟨x7, hx7, h⟩ := bdS h
  have w0 : WD G _ ([] ++ ([] ++ (w_X6 G ad I A J))) s _ _ := w
  refine cl_i (wc' := []) w0 (run_S (As := [.int a1, .int 0, .int ((I 19) - 1)]) (rest := []) C w0 (c_X6_isIn l G  _ a1 0 ((I 19) - 1) x7 hx7) mt_X6_isIn tt_630 rfl rfl ⟨Nat.le_of_ble_eq_true rfl, Nat.le_of_ble_eq_true rfl⟩ hl.1 (Nat.le_of_ble_eq_true rfl) dX6_isFree_8 ⟨Nat.le_of_ble_eq_true rfl, Nat.le_of_ble_eq_true rfl⟩) (fun H locs w => ?_)
  have w : WD G _ (w_X6 G ad I A J) s H locs := w
  refine lv_if_ne (tgt := 16) hx hb dX6_isFree_11 (by decide) (fun c8 => ?_) (fun c8 => ?_)
  · rw [if_neg c8] at h
    refine lv_iconst (v := 1) hx hb dX6_isFree_16 (by decide) ?_
    refine lv_istore_n (lv' := [(2, .int 1), (0, .ref (ad 0)), (1, .int a1)]) hx hb dX6_isFree_17 rfl hl (by decide) rfl (fun ls hl => ?_)
    refine lv_iconst (v := 0) hx hb dX6_isFree_18 (by decide) ?_
    refine lv_istore_n (lv' := [(3, .int 0), (2, .int 1), (0, .ref (ad 0)), (1, .int a1)]) hx hb dX6_isFree_19 rfl hl (by decide) rfl (fun ls hl => ?_)
    exact w_X6_isFree_20 C N N a1 1 0 h _ _ w _ (lv_sub hl [2, 3, 1, 0] rfl)
  · rw [if_pos c8] at h
    refine lv_iconst (v := 0) hx hb dX6_isFree_14 (by decide) ?_
    cases h
    exact ret_Z C w (Or.inl rfl) rfl rfl dX6_isFree_15
set_option maxHeartbeats 4000000 in
set_option maxRecDepth 100000 in
theorem c_X6_task (l : Launch) (G : GG) (ad : Nat → Nat) (sz : Nat) (N : Nat) (I : Nat → Int32) (A : Nat → Nat → Int32) (J : Nat → Nat → Int64) (a1 : Int32) (a2 : Int32) (a3 : Int32) (r : Int32) (I' : Nat → Int32) (A' : Nat → Nat → Int32) (J' : Nat → Nat → Int64) (h : f_X6_task N I A J a1 a2 a3 = some (r, I', A', J')) : CtI l yX6_task cX6_task 5 (some .int) { frames := 2, cells := 0, slots := 0, locals := 45 } G [.ref (ad 0), .int a1, .int a2, .int a3] (w_X6 G ad I A J) (w_X6 G ad I' A' J') sz r := by
  refine ct_of (by decide) (Nat.le_of_ble_eq_true rfl) (fun p e s m below meth c ls C w hsz hl => ?_)
  have hx := C.1
  have hb := C.2.1
  have hl : lv_has ls 5 [(0, .ref (ad 0)), (1, .int a1), (2, .int a2), (3, .int a3)] := hl
  unfold f_X6_task at h
  refine lv_aload_n hx hb dX6_task_0 rfl (lv_at hl 0 rfl) ?_
  refine lv_iload_n hx hb dX6_task_1 rfl (lv_at hl 1 rfl) ?_
  obtain ⟨x10, hx10, h⟩ := bdS h
  have w0 := w.z
  refine cl_i (wc' := (w_X6 G ad I A J)) w0 (run_V (As := [.int a1]) (rest := []) C w0 (c_X6_isFree l G ad  _ N I A J a1 x10 hx10) mt_X6_isFree tt_712 6 rfl rfl rfl rfl ⟨Nat.le_of_ble_eq_true rfl, Nat.le_of_ble_eq_true rfl⟩ hl.1 (Nat.le_of_ble_eq_true rfl) dX6_task_2 ⟨Nat.le_of_ble_eq_true rfl, Nat.le_of_ble_eq_true rfl⟩) (fun H locs w => ?_)
  have w := w.uz
  refine lv_if_eq (tgt := 34) hx hb dX6_task_5 (by decide) (fun c11 => ?_) (fun c11 => ?_)
  · rw [if_pos c11] at h
    refine lv_bipush (v := (-2)) hx hb dX6_task_34 (by decide) ?_
    cases h
    exact ret_I C w rfl rfl dX6_task_36
  · rw [if_neg c11] at h
    refine lv_iload_n hx hb dX6_task_8 rfl (lv_at hl 2 rfl) ?_
    refine lv_iconst (v := 0) hx hb dX6_task_9 (by decide) ?_
    refine lv_bipush (v := (7)) hx hb dX6_task_10 (by decide) ?_
    obtain ⟨x12, hx12, h⟩ := bdS h
    have w0 : WD G _ ([] ++ ([] ++ (w_X6 G ad I A J))) s _ _ := w
    refine cl_i (wc' := []) w0 (run_S (As := [.int a2, .int 0, .int 7]) (rest := []) C w0 (c_X6_isIn l G  _ a2 0 7 x12 hx12) mt_X6_isIn tt_630 rfl rfl ⟨Nat.le_of_ble_eq_true rfl, Nat.le_of_ble_eq_true rfl⟩ hl.1 (Nat.le_of_ble_eq_true rfl) dX6_task_12 ⟨Nat.le_of_ble_eq_true rfl, Nat.le_of_ble_eq_true rfl⟩) (fun H locs w => ?_)
    have w : WD G _ (w_X6 G ad I A J) s H locs := w
    refine lv_if_eq (tgt := 34) hx hb dX6_task_15 (by decide) (fun c13 => ?_) (fun c13 => ?_)
    · rw [if_pos c13] at h
      refine lv_bipush (v := (-2)) hx hb dX6_task_34 (by decide) ?_
      cases h
      exact ret_I C w rfl rfl dX6_task_36
    · rw [if_neg c13] at h
      refine lv_iload_n hx hb dX6_task_18 rfl (lv_at hl 3 rfl) ?_
      refine lv_if_lt (tgt := 34) hx hb dX6_task_19 (by decide) (fun c14 => ?_) (fun c14 => ?_)
      · rw [if_pos c14] at h
        refine lv_bipush (v := (-2)) hx hb dX6_task_34 (by decide) ?_
        cases h
        exact ret_I C w rfl rfl dX6_task_36
      · rw [if_neg c14] at h
        refine lv_iload_n hx hb dX6_task_22 rfl (lv_at hl 3 rfl) ?_
        refine lv_iconst (v := 1) hx hb dX6_task_23 (by decide) ?_
        refine lv_aload_n hx hb dX6_task_24 rfl (lv_at hl 0 rfl) ?_
        refine r_get C w 0 6 13 (.ref (ad 10)) ge_X6_0 rfl inX6 (by decide) tt_557 rfl dX6_task_25 ?_
        refine lv_iload_n hx hb dX6_task_28 rfl (lv_at hl 1 rfl) ?_
        obtain ⟨hin15, h⟩ := gdS h
        refine r_iald C w 10 (A 13 a1.toNatClampNeg) ge_X6_10 rfl hin15 dX6_task_29 ?_
        refine lv_ishl hx hb dX6_task_30 ?_
        refine lv_icmp_lt (tgt := 37) hx hb dX6_task_31 (by decide) (fun c16 => ?_) (fun c16 => ?_)
        · rw [if_pos c16] at h
          refine lv_aload_n hx hb dX6_task_37 rfl (lv_at hl 0 rfl) ?_
          refine r_get C w 0 6 13 (.ref (ad 10)) ge_X6_0 rfl inX6 (by decide) tt_557 rfl dX6_task_38 ?_
          refine lv_iload_n hx hb dX6_task_41 rfl (lv_at hl 1 rfl) ?_
          obtain ⟨hin17, h⟩ := gdS h
          refine r_iald C w 10 (A 13 a1.toNatClampNeg) ge_X6_10 rfl hin17 dX6_task_42 ?_
          refine lv_bipush (v := (6)) hx hb dX6_task_43 (by decide) ?_
          refine lv_icmp_ne (tgt := 51) hx hb dX6_task_45 (by decide) (fun c18 => ?_) (fun c18 => ?_)
          · rw [if_neg c18] at h
            refine lv_aload_n hx hb dX6_task_51 rfl (lv_at hl 0 rfl) ?_
            refine r_get C w 0 6 13 (.ref (ad 10)) ge_X6_0 rfl inX6 (by decide) tt_557 rfl dX6_task_52 ?_
            refine lv_iload_n hx hb dX6_task_55 rfl (lv_at hl 1 rfl) ?_
            obtain ⟨hin19, h⟩ := gdS h
            refine r_iald C w 10 (A 13 a1.toNatClampNeg) ge_X6_10 rfl hin19 dX6_task_56 ?_
            refine lv_istore (lv' := [(4, .int (A 13 a1.toNatClampNeg)), (0, .ref (ad 0)), (1, .int a1), (2, .int a2), (3, .int a3)]) hx hb dX6_task_57 hl (by decide) rfl (fun ls hl => ?_)
            refine lv_aload_n hx hb dX6_task_59 rfl (lv_at hl 1 rfl) ?_
            refine r_get C w 0 6 14 (.ref (ad 11)) ge_X6_0 rfl inX6 (by decide) tt_558 rfl dX6_task_60 ?_
            refine lv_bipush (v := (6)) hx hb dX6_task_63 (by decide) ?_
            refine lv_iload_n hx hb dX6_task_65 rfl (lv_at hl 2 rfl) ?_
            refine lv_imul hx hb dX6_task_66 ?_
            refine lv_iload hx hb dX6_task_67 (lv_at hl 0 rfl) ?_
            refine lv_iadd hx hb dX6_task_69 ?_
            refine lv_iload_n hx hb dX6_task_70 rfl (lv_at hl 3 rfl) ?_
            obtain ⟨hin20, h⟩ := gdS h
            refine r_iast C w 11 (w_X6 G ad I (aS A 14 ((6 * a1) + (A 13 a1.toNatClampNeg)).toNatClampNeg a2) J) ge_X6_11 hin20 st_X6_11 dX6_task_71 (fun H locs w => ?_)
            refine lv_aload_n hx hb dX6_task_72 rfl (lv_at hl 1 rfl) ?_
            refine r_get C w 0 6 15 (.ref (ad 12)) ge_X6_0 rfl inX6 (by decide) tt_559 rfl dX6_task_73 ?_
            refine lv_bipush (v := (6)) hx hb dX6_task_76 (by decide) ?_
            refine lv_iload_n hx hb dX6_task_78 rfl (lv_at hl 2 rfl) ?_
            refine lv_imul hx hb dX6_task_79 ?_
            refine lv_iload hx hb dX6_task_80 (lv_at hl 0 rfl) ?_
            refine lv_iadd hx hb dX6_task_82 ?_
            refine lv_iload_n hx hb dX6_task_83 rfl (lv_at hl 4 rfl) ?_
            obtain ⟨hin21, h⟩ := gdS h
            refine r_iast C w 12 (w_X6 G ad I (aS (aS A 14 ((6 * a1) + (A 13 a1.toNatClampNeg)).toNatClampNeg a2) 15 ((6 * a1) + (A 13 a1.toNatClampNeg)).toNatClampNeg a3) J) ge_X6_12 hin21 st_X6_12 dX6_task_84 (fun H locs w => ?_)
            refine lv_aload_n hx hb dX6_task_85 rfl (lv_at hl 1 rfl) ?_
            refine r_get C w 0 6 13 (.ref (ad 10)) ge_X6_0 rfl inX6 (by decide) tt_557 rfl dX6_task_86 ?_
            refine lv_iload_n hx hb dX6_task_89 rfl (lv_at hl 2 rfl) ?_
            refine lv_dup2_11 hx hb dX6_task_90 rfl rfl ?_
            obtain ⟨hin22, h⟩ := gdS h
            refine r_iald C w 10 ((aS (aS A 14 ((6 * a1) + (A 13 a1.toNatClampNeg)).toNatClampNeg a2) 15 ((6 * a1) + (A 13 a1.toNatClampNeg)).toNatClampNeg a3) 13 a1.toNatClampNeg) ge_X6_10 rfl hin22 dX6_task_91 ?_
            refine lv_iconst (v := 1) hx hb dX6_task_92 (by decide) ?_
            refine lv_iadd hx hb dX6_task_93 ?_
            obtain ⟨hin23, h⟩ := gdS h
            refine r_iast C w 10 (w_X6 G ad I (aS (aS (aS A 14 ((6 * a1) + (A 13 a1.toNatClampNeg)).toNatClampNeg a2) 15 ((6 * a1) + (A 13 a1.toNatClampNeg)).toNatClampNeg a3) 13 a1.toNatClampNeg (((aS (aS A 14 ((6 * a1) + (A 13 a1.toNatClampNeg)).toNatClampNeg a2) 15 ((6 * a1) + (A 13 a1.toNatClampNeg)).toNatClampNeg a3) 13 a1.toNatClampNeg) + 1)) J) ge_X6_10 hin23 st_X6_10 dX6_task_94 (fun H locs w => ?_)
            refine lv_iload hx hb dX6_task_95 (lv_at hl 0 rfl) ?_
            cases h
            exact ret_I C w rfl rfl dX6_task_97
          · rw [if_pos c18] at h
            refine lv_bipush (v := (-3)) hx hb dX6_task_48 (by decide) ?_
            cases h
            exact ret_I C w rfl rfl dX6_task_50
        · rw [if_neg c16] at h
          refine lv_bipush (v := (-2)) hx hb dX6_task_34 (by decide) ?_
          cases h
          exact ret_I C w rfl rfl dX6_task_36
set_option maxHeartbeats 4000000 in
set_option maxRecDepth 100000 in
theorem c_X6_arePair (l : Launch) (G : GG) (ad : Nat → Nat) (sz : Nat) (N : Nat) (I : Nat → Int32) (A : Nat → Nat → Int32) (J : Nat → Nat → Int64) (a1 : Int32) (a2 : Int32) (a3 : Int32) (r : Int32) (h : f_X6_arePair N I A J a1 a2 a3 = some r) : CtI l yX6_arePair cX6_arePair 4 (some .boolean) { frames := 2, cells := 0, slots := 0, locals := 45 } G [.ref (ad 0), .int a1, .int a2, .int a3] (w_X6 G ad I A J) (w_X6 G ad I A J) sz r := by
  refine ct_of (by decide) (Nat.le_of_ble_eq_true rfl) (fun p e s m below meth c ls C w hsz hl => ?_)
  have hx := C.1
  have hb := C.2.1
  have hl : lv_has ls 4 [(0, .ref (ad 0)), (1, .int a1), (2, .int a2), (3, .int a3)] := hl
  unfold f_X6_arePair at h
  refine lv_aload_n hx hb dX6_arePair_0 rfl (lv_at hl 0 rfl) ?_
  refine lv_iload_n hx hb dX6_arePair_1 rfl (lv_at hl 1 rfl) ?_
  obtain ⟨x6, hx6, h⟩ := bdS h
  have w0 := w.z
  refine cl_i (wc' := (w_X6 G ad I A J)) w0 (run_V (As := [.int a1]) (rest := []) C w0 (c_X6_isFree l G ad  _ N I A J a1 x6 hx6) mt_X6_isFree tt_712 6 rfl rfl rfl rfl ⟨Nat.le_of_ble_eq_true rfl, Nat.le_of_ble_eq_true rfl⟩ hl.1 (Nat.le_of_ble_eq_true rfl) dX6_arePair_2 ⟨Nat.le_of_ble_eq_true rfl, Nat.le_of_ble_eq_true rfl⟩) (fun H locs w => ?_)
  have w := w.uz
  refine lv_if_eq (tgt := 49) hx hb dX6_arePair_5 (by decide) (fun c7 => ?_) (fun c7 => ?_)
  · rw [if_pos c7] at h
    refine lv_iconst (v := 0) hx hb dX6_arePair_49 (by decide) ?_
    cases h
    exact ret_Z C w (Or.inl rfl) rfl rfl dX6_arePair_50
  · rw [if_neg c7] at h
    refine lv_iload_n hx hb dX6_arePair_8 rfl (lv_at hl 2 rfl) ?_
    refine lv_iload_n hx hb dX6_arePair_9 rfl (lv_at hl 3 rfl) ?_
    refine lv_icmp_eq (tgt := 49) hx hb dX6_arePair_10 (by decide) (fun c8 => ?_) (fun c8 => ?_)
    · rw [if_pos c8] at h
      refine lv_iconst (v := 0) hx hb dX6_arePair_49 (by decide) ?_
      cases h
      exact ret_Z C w (Or.inl rfl) rfl rfl dX6_arePair_50
    · rw [if_neg c8] at h
      refine lv_iload_n hx hb dX6_arePair_13 rfl (lv_at hl 2 rfl) ?_
      refine lv_iconst (v := 0) hx hb dX6_arePair_14 (by decide) ?_
      refine lv_aload_n hx hb dX6_arePair_15 rfl (lv_at hl 0 rfl) ?_
      refine r_get C w 0 6 13 (.ref (ad 10)) ge_X6_0 rfl inX6 (by decide) tt_557 rfl dX6_arePair_16 ?_
      refine lv_iload_n hx hb dX6_arePair_19 rfl (lv_at hl 1 rfl) ?_
      obtain ⟨hin9, h⟩ := gdS h
      refine r_iald C w 10 (A 13 a1.toNatClampNeg) ge_X6_10 rfl hin9 dX6_arePair_20 ?_
      refine lv_iconst (v := 1) hx hb dX6_arePair_21 (by decide) ?_
      refine lv_isub hx hb dX6_arePair_22 ?_
      obtain ⟨x10, hx10, h⟩ := bdS h
      have w0 : WD G _ ([] ++ ([] ++ (w_X6 G ad I A J))) s _ _ := w
      refine cl_i (wc' := []) w0 (run_S (As := [.int a2, .int 0, .int ((A 13 a1.toNatClampNeg) - 1)]) (rest := []) C w0 (c_X6_isIn l G  _ a2 0 ((A 13 a1.toNatClampNeg) - 1) x10 hx10) mt_X6_isIn tt_630 rfl rfl ⟨Nat.le_of_ble_eq_true rfl, Nat.le_of_ble_eq_true rfl⟩ hl.1 (Nat.le_of_ble_eq_true rfl) dX6_arePair_23 ⟨Nat.le_of_ble_eq_true rfl, Nat.le_of_ble_eq_true rfl⟩) (fun H locs w => ?_)
      have w : WD G _ (w_X6 G ad I A J) s H locs := w
      refine lv_if_eq (tgt := 49) hx hb dX6_arePair_26 (by decide) (fun c11 => ?_) (fun c11 => ?_)
      · rw [if_pos c11] at h
        refine lv_iconst (v := 0) hx hb dX6_arePair_49 (by decide) ?_
        cases h
        exact ret_Z C w (Or.inl rfl) rfl rfl dX6_arePair_50
      · rw [if_neg c11] at h
        refine lv_iload_n hx hb dX6_arePair_29 rfl (lv_at hl 3 rfl) ?_
        refine lv_iconst (v := 0) hx hb dX6_arePair_30 (by decide) ?_
        refine lv_aload_n hx hb dX6_arePair_31 rfl (lv_at hl 0 rfl) ?_
        refine r_get C w 0 6 13 (.ref (ad 10)) ge_X6_0 rfl inX6 (by decide) tt_557 rfl dX6_arePair_32 ?_
        refine lv_iload_n hx hb dX6_arePair_35 rfl (lv_at hl 1 rfl) ?_
        obtain ⟨hin12, h⟩ := gdS h
        refine r_iald C w 10 (A 13 a1.toNatClampNeg) ge_X6_10 rfl hin12 dX6_arePair_36 ?_
        refine lv_iconst (v := 1) hx hb dX6_arePair_37 (by decide) ?_
        refine lv_isub hx hb dX6_arePair_38 ?_
        obtain ⟨x13, hx13, h⟩ := bdS h
        have w0 : WD G _ ([] ++ ([] ++ (w_X6 G ad I A J))) s _ _ := w
        refine cl_i (wc' := []) w0 (run_S (As := [.int a3, .int 0, .int ((A 13 a1.toNatClampNeg) - 1)]) (rest := []) C w0 (c_X6_isIn l G  _ a3 0 ((A 13 a1.toNatClampNeg) - 1) x13 hx13) mt_X6_isIn tt_630 rfl rfl ⟨Nat.le_of_ble_eq_true rfl, Nat.le_of_ble_eq_true rfl⟩ hl.1 (Nat.le_of_ble_eq_true rfl) dX6_arePair_39 ⟨Nat.le_of_ble_eq_true rfl, Nat.le_of_ble_eq_true rfl⟩) (fun H locs w => ?_)
        have w : WD G _ (w_X6 G ad I A J) s H locs := w
        refine lv_if_eq (tgt := 49) hx hb dX6_arePair_42 (by decide) (fun c14 => ?_) (fun c14 => ?_)
        · rw [if_pos c14] at h
          refine lv_iconst (v := 0) hx hb dX6_arePair_49 (by decide) ?_
          cases h
          exact ret_Z C w (Or.inl rfl) rfl rfl dX6_arePair_50
        · rw [if_neg c14] at h
          refine lv_iconst (v := 1) hx hb dX6_arePair_45 (by decide) ?_
          refine lv_goto (tgt := 50) hx hb dX6_arePair_46 (by decide) ?_
          cases h
          exact ret_Z C w (Or.inr rfl) rfl rfl dX6_arePair_50
set_option maxHeartbeats 4000000 in
set_option maxRecDepth 100000 in
theorem c_X6_apart (l : Launch) (G : GG) (ad : Nat → Nat) (sz : Nat) (N : Nat) (I : Nat → Int32) (A : Nat → Nat → Int32) (J : Nat → Nat → Int64) (a1 : Int32) (a2 : Int32) (a3 : Int32) (r : Int32) (I' : Nat → Int32) (A' : Nat → Nat → Int32) (J' : Nat → Nat → Int64) (h : f_X6_apart N I A J a1 a2 a3 = some (r, I', A', J')) : CtI l yX6_apart cX6_apart 5 (some .int) { frames := 3, cells := 0, slots := 0, locals := 68 } G [.ref (ad 0), .int a1, .int a2, .int a3] (w_X6 G ad I A J) (w_X6 G ad I' A' J') sz r := by
  refine ct_of (by decide) (Nat.le_of_ble_eq_true rfl) (fun p e s m below meth c ls C w hsz hl => ?_)
  have hx := C.1
  have hb := C.2.1
  have hl : lv_has ls 5 [(0, .ref (ad 0)), (1, .int a1), (2, .int a2), (3, .int a3)] := hl
  unfold f_X6_apart at h
  refine lv_aload_n hx hb dX6_apart_0 rfl (lv_at hl 0 rfl) ?_
  refine lv_iload_n hx hb dX6_apart_1 rfl (lv_at hl 1 rfl) ?_
  refine lv_iload_n hx hb dX6_apart_2 rfl (lv_at hl 2 rfl) ?_
  refine lv_iload_n hx hb dX6_apart_3 rfl (lv_at hl 3 rfl) ?_
  obtain ⟨x6, hx6, h⟩ := bdS h
  have w0 := w.z
  refine cl_i (wc' := (w_X6 G ad I A J)) w0 (run_V (As := [.int a1, .int a2, .int a3]) (rest := []) C w0 (c_X6_arePair l G ad  _ N I A J a1 a2 a3 x6 hx6) mt_X6_arePair tt_720 6 rfl rfl rfl rfl ⟨Nat.le_of_ble_eq_true rfl, Nat.le_of_ble_eq_true rfl⟩ hl.1 (Nat.le_of_ble_eq_true rfl) dX6_apart_4 ⟨Nat.le_of_ble_eq_true rfl, Nat.le_of_ble_eq_true rfl⟩) (fun H locs w => ?_)
  have w := w.uz
  refine lv_if_ne (tgt := 13) hx hb dX6_apart_7 (by decide) (fun c7 => ?_) (fun c7 => ?_)
  · rw [if_neg c7] at h
    refine lv_aload_n hx hb dX6_apart_13 rfl (lv_at hl 0 rfl) ?_
    refine r_get C w 0 6 16 (.ref (ad 13)) ge_X6_0 rfl inX6 (by decide) tt_560 rfl dX6_apart_14 ?_
    refine lv_iload_n hx hb dX6_apart_17 rfl (lv_at hl 1 rfl) ?_
    refine lv_iload_n hx hb dX6_apart_18 rfl (lv_at hl 2 rfl) ?_
    refine lv_iload_n hx hb dX6_apart_19 rfl (lv_at hl 3 rfl) ?_
    obtain ⟨x8, hx8, h⟩ := bdS h
    have w0 : WD G _ ([] ++ ([] ++ (w_X6 G ad I A J))) s _ _ := w
    refine cl_i (wc' := []) w0 (run_S (As := [.int a1, .int a2, .int a3]) (rest := [.ref (ad 13)]) C w0 (c_X6_pair l G  _ a1 a2 a3 x8 hx8) mt_X6_pair tt_724 rfl rfl ⟨Nat.le_of_ble_eq_true rfl, Nat.le_of_ble_eq_true rfl⟩ hl.1 (Nat.le_of_ble_eq_true rfl) dX6_apart_20 ⟨Nat.le_of_ble_eq_true rfl, Nat.le_of_ble_eq_true rfl⟩) (fun H locs w => ?_)
    have w : WD G _ (w_X6 G ad I A J) s H locs := w
    obtain ⟨hin9, h⟩ := gdS h
    refine r_zald C w 13 (A 16 x8.toNatClampNeg) ge_X6_13 rfl hin9 dX6_apart_23 ?_
    refine lv_istore (lv' := [(4, .int (A 16 x8.toNatClampNeg)), (0, .ref (ad 0)), (1, .int a1), (2, .int a2), (3, .int a3)]) hx hb dX6_apart_24 hl (by decide) rfl (fun ls hl => ?_)
    refine lv_aload_n hx hb dX6_apart_26 rfl (lv_at hl 1 rfl) ?_
    refine r_get C w 0 6 16 (.ref (ad 13)) ge_X6_0 rfl inX6 (by decide) tt_560 rfl dX6_apart_27 ?_
    refine lv_iload_n hx hb dX6_apart_30 rfl (lv_at hl 2 rfl) ?_
    refine lv_iload_n hx hb dX6_apart_31 rfl (lv_at hl 3 rfl) ?_
    refine lv_iload_n hx hb dX6_apart_32 rfl (lv_at hl 4 rfl) ?_
    obtain ⟨x10, hx10, h⟩ := bdS h
    have w0 : WD G _ ([] ++ ([] ++ (w_X6 G ad I A J))) s _ _ := w
    refine cl_i (wc' := []) w0 (run_S (As := [.int a1, .int a2, .int a3]) (rest := [.ref (ad 13)]) C w0 (c_X6_pair l G  _ a1 a2 a3 x10 hx10) mt_X6_pair tt_724 rfl rfl ⟨Nat.le_of_ble_eq_true rfl, Nat.le_of_ble_eq_true rfl⟩ hl.1 (Nat.le_of_ble_eq_true rfl) dX6_apart_33 ⟨Nat.le_of_ble_eq_true rfl, Nat.le_of_ble_eq_true rfl⟩) (fun H locs w => ?_)
    have w : WD G _ (w_X6 G ad I A J) s H locs := w
    refine lv_iconst (v := 1) hx hb dX6_apart_36 (by decide) ?_
    obtain ⟨hin11, h⟩ := gdS h
    refine r_zast C w 13 (w_X6 G ad I (aS A 16 x10.toNatClampNeg 1) J) ge_X6_13 (by decide) hin11 st_X6_13 dX6_apart_37 (fun H locs w => ?_)
    refine lv_iload hx hb dX6_apart_38 (lv_at hl 0 rfl) ?_
    refine lv_if_eq (tgt := 47) hx hb dX6_apart_40 (by decide) (fun c12 => ?_) (fun c12 => ?_)
    · rw [if_pos c12] at h
      refine lv_iconst (v := 1) hx hb dX6_apart_47 (by decide) ?_
      cases h
      exact ret_I C w rfl rfl dX6_apart_48
    · rw [if_neg c12] at h
      refine lv_iconst (v := 0) hx hb dX6_apart_43 (by decide) ?_
      refine lv_goto (tgt := 48) hx hb dX6_apart_44 (by decide) ?_
      cases h
      exact ret_I C w rfl rfl dX6_apart_48
  · rw [if_pos c7] at h
    refine lv_bipush (v := (-2)) hx hb dX6_apart_10 (by decide) ?_
    cases h
    exact ret_I C w rfl rfl dX6_apart_12
set_option maxHeartbeats 4000000 in
set_option maxRecDepth 100000 in
theorem c_X6_bound (l : Launch) (G : GG) (ad : Nat → Nat) (sz : Nat) (N : Nat) (I : Nat → Int32) (A : Nat → Nat → Int32) (J : Nat → Nat → Int64) (a1 : Int32) (a2 : Int32) (a3 : Int32) (r : Int32) (I' : Nat → Int32) (A' : Nat → Nat → Int32) (J' : Nat → Nat → Int64) (h : f_X6_bound N I A J a1 a2 a3 = some (r, I', A', J')) : CtI l yX6_bound cX6_bound 5 (some .int) { frames := 3, cells := 0, slots := 0, locals := 68 } G [.ref (ad 0), .int a1, .int a2, .int a3] (w_X6 G ad I A J) (w_X6 G ad I' A' J') sz r := by
  refine ct_of (by decide) (Nat.le_of_ble_eq_true rfl) (fun p e s m below meth c ls C w hsz hl => ?_)
  have hx := C.1
  have hb := C.2.1
  have hl : lv_has ls 5 [(0, .ref (ad 0)), (1, .int a1), (2, .int a2), (3, .int a3)] := hl
  unfold f_X6_bound at h
  refine lv_aload_n hx hb dX6_bound_0 rfl (lv_at hl 0 rfl) ?_
  refine lv_iload_n hx hb dX6_bound_1 rfl (lv_at hl 1 rfl) ?_
  refine lv_iload_n hx hb dX6_bound_2 rfl (lv_at hl 2 rfl) ?_
  refine lv_iload_n hx hb dX6_bound_3 rfl (lv_at hl 3 rfl) ?_
  obtain ⟨x6, hx6, h⟩ := bdS h
  have w0 := w.z
  refine cl_i (wc' := (w_X6 G ad I A J)) w0 (run_V (As := [.int a1, .int a2, .int a3]) (rest := []) C w0 (c_X6_arePair l G ad  _ N I A J a1 a2 a3 x6 hx6) mt_X6_arePair tt_720 6 rfl rfl rfl rfl ⟨Nat.le_of_ble_eq_true rfl, Nat.le_of_ble_eq_true rfl⟩ hl.1 (Nat.le_of_ble_eq_true rfl) dX6_bound_4 ⟨Nat.le_of_ble_eq_true rfl, Nat.le_of_ble_eq_true rfl⟩) (fun H locs w => ?_)
  have w := w.uz
  refine lv_if_ne (tgt := 13) hx hb dX6_bound_7 (by decide) (fun c7 => ?_) (fun c7 => ?_)
  · rw [if_neg c7] at h
    refine lv_aload_n hx hb dX6_bound_13 rfl (lv_at hl 0 rfl) ?_
    refine r_get C w 0 6 17 (.ref (ad 14)) ge_X6_0 rfl inX6 (by decide) tt_561 rfl dX6_bound_14 ?_
    refine lv_iload_n hx hb dX6_bound_17 rfl (lv_at hl 1 rfl) ?_
    refine lv_iload_n hx hb dX6_bound_18 rfl (lv_at hl 2 rfl) ?_
    refine lv_iload_n hx hb dX6_bound_19 rfl (lv_at hl 3 rfl) ?_
    obtain ⟨x8, hx8, h⟩ := bdS h
    have w0 : WD G _ ([] ++ ([] ++ (w_X6 G ad I A J))) s _ _ := w
    refine cl_i (wc' := []) w0 (run_S (As := [.int a1, .int a2, .int a3]) (rest := [.ref (ad 14)]) C w0 (c_X6_pair l G  _ a1 a2 a3 x8 hx8) mt_X6_pair tt_724 rfl rfl ⟨Nat.le_of_ble_eq_true rfl, Nat.le_of_ble_eq_true rfl⟩ hl.1 (Nat.le_of_ble_eq_true rfl) dX6_bound_20 ⟨Nat.le_of_ble_eq_true rfl, Nat.le_of_ble_eq_true rfl⟩) (fun H locs w => ?_)
    have w : WD G _ (w_X6 G ad I A J) s H locs := w
    obtain ⟨hin9, h⟩ := gdS h
    refine r_zald C w 14 (A 17 x8.toNatClampNeg) ge_X6_14 rfl hin9 dX6_bound_23 ?_
    refine lv_istore (lv' := [(4, .int (A 17 x8.toNatClampNeg)), (0, .ref (ad 0)), (1, .int a1), (2, .int a2), (3, .int a3)]) hx hb dX6_bound_24 hl (by decide) rfl (fun ls hl => ?_)
    refine lv_aload_n hx hb dX6_bound_26 rfl (lv_at hl 1 rfl) ?_
    refine r_get C w 0 6 17 (.ref (ad 14)) ge_X6_0 rfl inX6 (by decide) tt_561 rfl dX6_bound_27 ?_
    refine lv_iload_n hx hb dX6_bound_30 rfl (lv_at hl 2 rfl) ?_
    refine lv_iload_n hx hb dX6_bound_31 rfl (lv_at hl 3 rfl) ?_
    refine lv_iload_n hx hb dX6_bound_32 rfl (lv_at hl 4 rfl) ?_
    obtain ⟨x10, hx10, h⟩ := bdS h
    have w0 : WD G _ ([] ++ ([] ++ (w_X6 G ad I A J))) s _ _ := w
    refine cl_i (wc' := []) w0 (run_S (As := [.int a1, .int a2, .int a3]) (rest := [.ref (ad 14)]) C w0 (c_X6_pair l G  _ a1 a2 a3 x10 hx10) mt_X6_pair tt_724 rfl rfl ⟨Nat.le_of_ble_eq_true rfl, Nat.le_of_ble_eq_true rfl⟩ hl.1 (Nat.le_of_ble_eq_true rfl) dX6_bound_33 ⟨Nat.le_of_ble_eq_true rfl, Nat.le_of_ble_eq_true rfl⟩) (fun H locs w => ?_)
    have w : WD G _ (w_X6 G ad I A J) s H locs := w
    refine lv_iconst (v := 1) hx hb dX6_bound_36 (by decide) ?_
    obtain ⟨hin11, h⟩ := gdS h
    refine r_zast C w 14 (w_X6 G ad I (aS A 17 x10.toNatClampNeg 1) J) ge_X6_14 (by decide) hin11 st_X6_14 dX6_bound_37 (fun H locs w => ?_)
    refine lv_iload hx hb dX6_bound_38 (lv_at hl 0 rfl) ?_
    refine lv_if_eq (tgt := 47) hx hb dX6_bound_40 (by decide) (fun c12 => ?_) (fun c12 => ?_)
    · rw [if_pos c12] at h
      refine lv_iconst (v := 1) hx hb dX6_bound_47 (by decide) ?_
      cases h
      exact ret_I C w rfl rfl dX6_bound_48
    · rw [if_neg c12] at h
      refine lv_iconst (v := 0) hx hb dX6_bound_43 (by decide) ?_
      refine lv_goto (tgt := 48) hx hb dX6_bound_44 (by decide) ?_
      cases h
      exact ret_I C w rfl rfl dX6_bound_48
  · rw [if_pos c7] at h
    refine lv_bipush (v := (-2)) hx hb dX6_bound_10 (by decide) ?_
    cases h
    exact ret_I C w rfl rfl dX6_bound_12
set_option maxHeartbeats 4000000 in
set_option maxRecDepth 100000 in
theorem c_X6_most (l : Launch) (G : GG) (ad : Nat → Nat) (sz : Nat) (N : Nat) (I : Nat → Int32) (A : Nat → Nat → Int32) (J : Nat → Nat → Int64) (a1 : Int32) (a2 : Int32) (r : Int32) (I' : Nat → Int32) (A' : Nat → Nat → Int32) (J' : Nat → Nat → Int64) (h : f_X6_most N I A J a1 a2 = some (r, I', A', J')) : CtI l yX6_most cX6_most 4 (some .int) { frames := 2, cells := 0, slots := 0, locals := 45 } G [.ref (ad 0), .int a1, .int a2] (w_X6 G ad I A J) (w_X6 G ad I' A' J') sz r := by
  refine ct_of (by decide) (Nat.le_of_ble_eq_true rfl) (fun p e s m below meth c ls C w hsz hl => ?_)
  have hx := C.1
  have hb := C.2.1
  have hl : lv_has ls 4 [(0, .ref (ad 0)), (1, .int a1), (2, .int a2)] := hl
  unfold f_X6_most at h
  refine lv_aload_n hx hb dX6_most_0 rfl (lv_at hl 0 rfl) ?_
  refine lv_iload_n hx hb dX6_most_1 rfl (lv_at hl 1 rfl) ?_
  obtain ⟨x5, hx5, h⟩ := bdS h
  have w0 := w.z
  refine cl_i (wc' := (w_X6 G ad I A J)) w0 (run_V (As := [.int a1]) (rest := []) C w0 (c_X6_isFree l G ad  _ N I A J a1 x5 hx5) mt_X6_isFree tt_712 6 rfl rfl rfl rfl ⟨Nat.le_of_ble_eq_true rfl, Nat.le_of_ble_eq_true rfl⟩ hl.1 (Nat.le_of_ble_eq_true rfl) dX6_most_2 ⟨Nat.le_of_ble_eq_true rfl, Nat.le_of_ble_eq_true rfl⟩) (fun H locs w => ?_)
  have w := w.uz
  refine lv_if_eq (tgt := 18) hx hb dX6_most_5 (by decide) (fun c6 => ?_) (fun c6 => ?_)
  · rw [if_pos c6] at h
    refine lv_bipush (v := (-2)) hx hb dX6_most_18 (by decide) ?_
    cases h
    exact ret_I C w rfl rfl dX6_most_20
  · rw [if_neg c6] at h
    refine lv_iload_n hx hb dX6_most_8 rfl (lv_at hl 2 rfl) ?_
    refine lv_iconst (v := 1) hx hb dX6_most_9 (by decide) ?_
    refine lv_bipush (v := (6)) hx hb dX6_most_10 (by decide) ?_
    obtain ⟨x7, hx7, h⟩ := bdS h
    have w0 : WD G _ ([] ++ ([] ++ (w_X6 G ad I A J))) s _ _ := w
    refine cl_i (wc' := []) w0 (run_S (As := [.int a2, .int 1, .int 6]) (rest := []) C w0 (c_X6_isIn l G  _ a2 1 6 x7 hx7) mt_X6_isIn tt_630 rfl rfl ⟨Nat.le_of_ble_eq_true rfl, Nat.le_of_ble_eq_true rfl⟩ hl.1 (Nat.le_of_ble_eq_true rfl) dX6_most_12 ⟨Nat.le_of_ble_eq_true rfl, Nat.le_of_ble_eq_true rfl⟩) (fun H locs w => ?_)
    have w : WD G _ (w_X6 G ad I A J) s H locs := w
    refine lv_if_ne (tgt := 21) hx hb dX6_most_15 (by decide) (fun c8 => ?_) (fun c8 => ?_)
    · rw [if_neg c8] at h
      refine lv_aload_n hx hb dX6_most_21 rfl (lv_at hl 0 rfl) ?_
      refine r_get C w 0 6 18 (.ref (ad 15)) ge_X6_0 rfl inX6 (by decide) tt_562 rfl dX6_most_22 ?_
      refine lv_iload_n hx hb dX6_most_25 rfl (lv_at hl 1 rfl) ?_
      obtain ⟨hin9, h⟩ := gdS h
      refine r_iald C w 15 (A 18 a1.toNatClampNeg) ge_X6_15 rfl hin9 dX6_most_26 ?_
      refine lv_istore_n (lv' := [(3, .int (A 18 a1.toNatClampNeg)), (0, .ref (ad 0)), (1, .int a1), (2, .int a2)]) hx hb dX6_most_27 rfl hl (by decide) rfl (fun ls hl => ?_)
      refine lv_aload_n hx hb dX6_most_28 rfl (lv_at hl 1 rfl) ?_
      refine r_get C w 0 6 18 (.ref (ad 15)) ge_X6_0 rfl inX6 (by decide) tt_562 rfl dX6_most_29 ?_
      refine lv_iload_n hx hb dX6_most_32 rfl (lv_at hl 2 rfl) ?_
      refine lv_iload_n hx hb dX6_most_33 rfl (lv_at hl 3 rfl) ?_
      obtain ⟨hin10, h⟩ := gdS h
      refine r_iast C w 15 (w_X6 G ad I (aS A 18 a1.toNatClampNeg a2) J) ge_X6_15 hin10 st_X6_15 dX6_most_34 (fun H locs w => ?_)
      refine lv_iload_n hx hb dX6_most_35 rfl (lv_at hl 0 rfl) ?_
      cases h
      exact ret_I C w rfl rfl dX6_most_36
    · rw [if_pos c8] at h
      refine lv_bipush (v := (-2)) hx hb dX6_most_18 (by decide) ?_
      cases h
      exact ret_I C w rfl rfl dX6_most_20
set_option maxHeartbeats 4000000 in
set_option maxRecDepth 100000 in
theorem w_X6_open_50 {p : Program} {l : Launch} {e : Env} {s : State} {m : MethodId} {args : Array Value} {below : List Frame} {meth : Method} {c : Code} {FA : Nat → Prop} {G : GG} {ad : Nat → Nat} {r : Int32} {I' : Nat → Int32} {A' : Nat → Nat → Int32} {J' : Nat → Nat → Int64}  (C : CX p m meth c s args yX6_open cX6_open 3 (some .int)) (N : Nat) : ∀ n : Nat, ∀ (I : Nat → Int32) (A : Nat → Nat → Int32) (J : Nat → Nat → Int64) (v2 : Int32), f_X6_open_50 N n I A J v2 = some (r, I', A', J') → ∀ (H : Heap) (locs : List Loc), WD G FA (w_X6 G ad I A J) s H locs → ∀ ls : Array Slot, lv_has ls 3 [(0, .ref (ad 0)), (2, .int v2)] → W p l e { frames := 1, cells := 0, slots := 0, locals := 22 } s m args below meth c H locs 0 0 (EnI below G FA args s (w_X6 G ad I' A' J') r) (F0 m 50 ls []) := by
  have hx := C.1
  have hb := C.2.1
  intro n
  induction n with
  | zero =>
    intro I A J v2 h
    cases h
  | succ n ih =>
    intro I A J v2 h H locs w ls hl
    rw [f_X6_open_50] at h
    refine lv_iload_n hx hb dX6_open_50 rfl (lv_at hl 1 rfl) ?_
    refine lv_bipush (v := (6)) hx hb dX6_open_51 (by decide) ?_
    refine lv_icmp_ge (tgt := 77) hx hb dX6_open_53 (by decide) (fun c5 => ?_) (fun c5 => ?_)
    · rw [if_pos c5] at h
      refine lv_aload_n hx hb dX6_open_77 rfl (lv_at hl 0 rfl) ?_
      refine lv_dup hx hb dX6_open_78 rfl ?_
      refine r_get C w 0 6 22 (.int (I 22)) ge_X6_0 rfl inX6 (by decide) tt_566 rfl dX6_open_79 ?_
      refine lv_iconst (v := 1) hx hb dX6_open_82 (by decide) ?_
      refine lv_iadd hx hb dX6_open_83 ?_
      refine r_put C w 0 6 22 (w_X6 G ad (upd I 22 ((I 22) + 1)) A J) tyX6_ok nmX6 ge_X6_0 rfl inX6 (by decide) tt_566 rfl rfl rfl (Nat.le_of_ble_eq_true rfl) st_X6_0_22 dX6_open_84 (fun H locs w => ?_)
      refine lv_aload_n hx hb dX6_open_87 rfl (lv_at hl 0 rfl) ?_
      refine r_get C w 0 6 22 (.int ((upd I 22 ((I 22) + 1)) 22)) ge_X6_0 rfl inX6 (by decide) tt_566 rfl dX6_open_88 ?_
      refine lv_iconst (v := 1) hx hb dX6_open_91 (by decide) ?_
      refine lv_isub hx hb dX6_open_92 ?_
      cases h
      exact ret_I C w rfl rfl dX6_open_93
    · rw [if_neg c5] at h
      refine lv_aload_n hx hb dX6_open_56 rfl (lv_at hl 0 rfl) ?_
      refine r_get C w 0 6 21 (.ref (ad 17)) ge_X6_0 rfl inX6 (by decide) tt_565 rfl dX6_open_57 ?_
      refine lv_bipush (v := (6)) hx hb dX6_open_60 (by decide) ?_
      refine lv_aload_n hx hb dX6_open_62 rfl (lv_at hl 0 rfl) ?_
      refine r_get C w 0 6 22 (.int (I 22)) ge_X6_0 rfl inX6 (by decide) tt_566 rfl dX6_open_63 ?_
      refine lv_imul hx hb dX6_open_66 ?_
      refine lv_iload_n hx hb dX6_open_67 rfl (lv_at hl 1 rfl) ?_
      refine lv_iadd hx hb dX6_open_68 ?_
      refine lv_iconst (v := (-1)) hx hb dX6_open_69 (by decide) ?_
      obtain ⟨hin6, h⟩ := gdS h
      refine r_iast C w 17 (w_X6 G ad I (aS A 21 ((6 * (I 22)) + v2).toNatClampNeg (-1)) J) ge_X6_17 hin6 st_X6_17 dX6_open_70 (fun H locs w => ?_)
      refine lv_iinc (v := v2 + 1) (lv' := [(2, .int (v2 + 1)), (0, .ref (ad 0))]) hx hb dX6_open_71 hl (k := 1) rfl rfl (by decide) rfl (fun ls hl => ?_)
      refine lv_goto (tgt := 50) hx hb dX6_open_74 (by decide) ?_
      exact ih I (aS A 21 ((6 * (I 22)) + v2).toNatClampNeg (-1)) J (v2 + 1) h _ _ w _ (lv_sub hl [1, 0] rfl)
set_option maxHeartbeats 4000000 in
set_option maxRecDepth 100000 in
theorem c_X6_open (l : Launch) (G : GG) (ad : Nat → Nat) (sz : Nat) (N : Nat) (I : Nat → Int32) (A : Nat → Nat → Int32) (J : Nat → Nat → Int64) (a1 : Int32) (r : Int32) (I' : Nat → Int32) (A' : Nat → Nat → Int32) (J' : Nat → Nat → Int64) (h : f_X6_open N I A J a1 = some (r, I', A', J')) : CtI l yX6_open cX6_open 3 (some .int) { frames := 1, cells := 0, slots := 0, locals := 22 } G [.ref (ad 0), .int a1] (w_X6 G ad I A J) (w_X6 G ad I' A' J') sz r := by
  refine ct_of (by decide) (Nat.le_of_ble_eq_true rfl) (fun p e s m below meth c ls C w hsz hl => ?_)
  have hx := C.1
  have hb := C.2.1
  have hl : lv_has ls 3 [(0, .ref (ad 0)), (1, .int a1)] := hl
  unfold f_X6_open at h
  refine lv_iload_n hx hb dX6_open_0 rfl (lv_at hl 1 rfl) ?_
  refine lv_iconst (v := 0) hx hb dX6_open_1 (by decide) ?_
  refine lv_aload_n hx hb dX6_open_2 rfl (lv_at hl 0 rfl) ?_
  refine r_get C w 0 6 19 (.int (I 19)) ge_X6_0 rfl inX6 (by decide) tt_563 rfl dX6_open_3 ?_
  refine lv_iconst (v := 1) hx hb dX6_open_6 (by decide) ?_
  refine lv_isub hx hb dX6_open_7 ?_
  obtain ⟨x7, hx7, h⟩ := bdS h
  have w0 : WD G _ ([] ++ ([] ++ (w_X6 G ad I A J))) s _ _ := w
  refine cl_i (wc' := []) w0 (run_S (As := [.int a1, .int 0, .int ((I 19) - 1)]) (rest := []) C w0 (c_X6_isIn l G  _ a1 0 ((I 19) - 1) x7 hx7) mt_X6_isIn tt_630 rfl rfl ⟨Nat.le_of_ble_eq_true rfl, Nat.le_of_ble_eq_true rfl⟩ hl.1 (Nat.le_of_ble_eq_true rfl) dX6_open_8 ⟨Nat.le_of_ble_eq_true rfl, Nat.le_of_ble_eq_true rfl⟩) (fun H locs w => ?_)
  have w : WD G _ (w_X6 G ad I A J) s H locs := w
  refine lv_if_eq (tgt := 23) hx hb dX6_open_11 (by decide) (fun c8 => ?_) (fun c8 => ?_)
  · rw [if_pos c8] at h
    refine lv_bipush (v := (-2)) hx hb dX6_open_23 (by decide) ?_
    cases h
    exact ret_I C w rfl rfl dX6_open_25
  · rw [if_neg c8] at h
    refine lv_aload_n hx hb dX6_open_14 rfl (lv_at hl 0 rfl) ?_
    refine r_get C w 0 6 13 (.ref (ad 10)) ge_X6_0 rfl inX6 (by decide) tt_557 rfl dX6_open_15 ?_
    refine lv_iload_n hx hb dX6_open_18 rfl (lv_at hl 1 rfl) ?_
    obtain ⟨hin9, h⟩ := gdS h
    refine r_iald C w 10 (A 13 a1.toNatClampNeg) ge_X6_10 rfl hin9 dX6_open_19 ?_
    refine lv_if_ne (tgt := 26) hx hb dX6_open_20 (by decide) (fun c10 => ?_) (fun c10 => ?_)
    · rw [if_neg c10] at h
      refine lv_aload_n hx hb dX6_open_26 rfl (lv_at hl 0 rfl) ?_
      refine r_get C w 0 6 22 (.int (I 22)) ge_X6_0 rfl inX6 (by decide) tt_566 rfl dX6_open_27 ?_
      refine lv_bipush (v := (16)) hx hb dX6_open_30 (by decide) ?_
      refine lv_icmp_ne (tgt := 38) hx hb dX6_open_32 (by decide) (fun c11 => ?_) (fun c11 => ?_)
      · rw [if_neg c11] at h
        refine lv_aload_n hx hb dX6_open_38 rfl (lv_at hl 0 rfl) ?_
        refine r_get C w 0 6 20 (.ref (ad 16)) ge_X6_0 rfl inX6 (by decide) tt_564 rfl dX6_open_39 ?_
        refine lv_aload_n hx hb dX6_open_42 rfl (lv_at hl 0 rfl) ?_
        refine r_get C w 0 6 22 (.int (I 22)) ge_X6_0 rfl inX6 (by decide) tt_566 rfl dX6_open_43 ?_
        refine lv_iload_n hx hb dX6_open_46 rfl (lv_at hl 1 rfl) ?_
        obtain ⟨hin12, h⟩ := gdS h
        refine r_iast C w 16 (w_X6 G ad I (aS A 20 (I 22).toNatClampNeg a1) J) ge_X6_16 hin12 st_X6_16 dX6_open_47 (fun H locs w => ?_)
        refine lv_iconst (v := 0) hx hb dX6_open_48 (by decide) ?_
        refine lv_istore_n (lv' := [(2, .int 0), (0, .ref (ad 0)), (1, .int a1)]) hx hb dX6_open_49 rfl hl (by decide) rfl (fun ls hl => ?_)
        exact w_X6_open_50 C N N I (aS A 20 (I 22).toNatClampNeg a1) J 0 h _ _ w _ (lv_sub hl [1, 0] rfl)
      · rw [if_pos c11] at h
        refine lv_bipush (v := (-3)) hx hb dX6_open_35 (by decide) ?_
        cases h
        exact ret_I C w rfl rfl dX6_open_37
    · rw [if_pos c10] at h
      refine lv_bipush (v := (-2)) hx hb dX6_open_23 (by decide) ?_
      cases h
      exact ret_I C w rfl rfl dX6_open_25
set_option maxHeartbeats 4000000 in
set_option maxRecDepth 100000 in
theorem c_X6_isTask (l : Launch) (G : GG) (ad : Nat → Nat) (sz : Nat) (I : Nat → Int32) (A : Nat → Nat → Int32) (J : Nat → Nat → Int64) (a1 : Int32) (a2 : Int32) (r : Int32) (h : f_X6_isTask I A J a1 a2 = some r) : CtI l yX6_isTask cX6_isTask 3 (some .boolean) { frames := 1, cells := 0, slots := 0, locals := 22 } G [.ref (ad 0), .int a1, .int a2] (w_X6 G ad I A J) (w_X6 G ad I A J) sz r := by
  refine ct_of (by decide) (Nat.le_of_ble_eq_true rfl) (fun p e s m below meth c ls C w hsz hl => ?_)
  have hx := C.1
  have hb := C.2.1
  have hl : lv_has ls 3 [(0, .ref (ad 0)), (1, .int a1), (2, .int a2)] := hl
  unfold f_X6_isTask at h
  refine lv_iload_n hx hb dX6_isTask_0 rfl (lv_at hl 2 rfl) ?_
  refine lv_iconst (v := 0) hx hb dX6_isTask_1 (by decide) ?_
  refine lv_aload_n hx hb dX6_isTask_2 rfl (lv_at hl 0 rfl) ?_
  refine r_get C w 0 6 22 (.int (I 22)) ge_X6_0 rfl inX6 (by decide) tt_566 rfl dX6_isTask_3 ?_
  refine lv_iconst (v := 1) hx hb dX6_isTask_6 (by decide) ?_
  refine lv_isub hx hb dX6_isTask_7 ?_
  obtain ⟨x5, hx5, h⟩ := bdS h
  have w0 : WD G _ ([] ++ ([] ++ (w_X6 G ad I A J))) s _ _ := w
  refine cl_i (wc' := []) w0 (run_S (As := [.int a2, .int 0, .int ((I 22) - 1)]) (rest := []) C w0 (c_X6_isIn l G  _ a2 0 ((I 22) - 1) x5 hx5) mt_X6_isIn tt_630 rfl rfl ⟨Nat.le_of_ble_eq_true rfl, Nat.le_of_ble_eq_true rfl⟩ hl.1 (Nat.le_of_ble_eq_true rfl) dX6_isTask_8 ⟨Nat.le_of_ble_eq_true rfl, Nat.le_of_ble_eq_true rfl⟩) (fun H locs w => ?_)
  have w : WD G _ (w_X6 G ad I A J) s H locs := w
  refine lv_if_eq (tgt := 39) hx hb dX6_isTask_11 (by decide) (fun c6 => ?_) (fun c6 => ?_)
  · rw [if_pos c6] at h
    refine lv_iconst (v := 0) hx hb dX6_isTask_39 (by decide) ?_
    cases h
    exact ret_Z C w (Or.inl rfl) rfl rfl dX6_isTask_40
  · rw [if_neg c6] at h
    refine lv_iload_n hx hb dX6_isTask_14 rfl (lv_at hl 1 rfl) ?_
    refine lv_iconst (v := 0) hx hb dX6_isTask_15 (by decide) ?_
    refine lv_aload_n hx hb dX6_isTask_16 rfl (lv_at hl 0 rfl) ?_
    refine r_get C w 0 6 13 (.ref (ad 10)) ge_X6_0 rfl inX6 (by decide) tt_557 rfl dX6_isTask_17 ?_
    refine lv_aload_n hx hb dX6_isTask_20 rfl (lv_at hl 0 rfl) ?_
    refine r_get C w 0 6 20 (.ref (ad 16)) ge_X6_0 rfl inX6 (by decide) tt_564 rfl dX6_isTask_21 ?_
    refine lv_iload_n hx hb dX6_isTask_24 rfl (lv_at hl 2 rfl) ?_
    obtain ⟨hin7, h⟩ := gdS h
    refine r_iald C w 16 (A 20 a2.toNatClampNeg) ge_X6_16 rfl hin7 dX6_isTask_25 ?_
    obtain ⟨hin8, h⟩ := gdS h
    refine r_iald C w 10 (A 13 (A 20 a2.toNatClampNeg).toNatClampNeg) ge_X6_10 rfl hin8 dX6_isTask_26 ?_
    refine lv_iconst (v := 1) hx hb dX6_isTask_27 (by decide) ?_
    refine lv_isub hx hb dX6_isTask_28 ?_
    obtain ⟨x9, hx9, h⟩ := bdS h
    have w0 : WD G _ ([] ++ ([] ++ (w_X6 G ad I A J))) s _ _ := w
    refine cl_i (wc' := []) w0 (run_S (As := [.int a1, .int 0, .int ((A 13 (A 20 a2.toNatClampNeg).toNatClampNeg) - 1)]) (rest := []) C w0 (c_X6_isIn l G  _ a1 0 ((A 13 (A 20 a2.toNatClampNeg).toNatClampNeg) - 1) x9 hx9) mt_X6_isIn tt_630 rfl rfl ⟨Nat.le_of_ble_eq_true rfl, Nat.le_of_ble_eq_true rfl⟩ hl.1 (Nat.le_of_ble_eq_true rfl) dX6_isTask_29 ⟨Nat.le_of_ble_eq_true rfl, Nat.le_of_ble_eq_true rfl⟩) (fun H locs w => ?_)
    have w : WD G _ (w_X6 G ad I A J) s H locs := w
    refine lv_if_eq (tgt := 39) hx hb dX6_isTask_32 (by decide) (fun c10 => ?_) (fun c10 => ?_)
    · rw [if_pos c10] at h
      refine lv_iconst (v := 0) hx hb dX6_isTask_39 (by decide) ?_
      cases h
      exact ret_Z C w (Or.inl rfl) rfl rfl dX6_isTask_40
    · rw [if_neg c10] at h
      refine lv_iconst (v := 1) hx hb dX6_isTask_35 (by decide) ?_
      refine lv_goto (tgt := 40) hx hb dX6_isTask_36 (by decide) ?_
      cases h
      exact ret_Z C w (Or.inr rfl) rfl rfl dX6_isTask_40
set_option maxHeartbeats 4000000 in
set_option maxRecDepth 100000 in
theorem c_X6_doer (l : Launch) (G : GG) (ad : Nat → Nat) (sz : Nat) (I : Nat → Int32) (A : Nat → Nat → Int32) (J : Nat → Nat → Int64) (a1 : Int32) (a2 : Int32) (r : Int32) (h : f_X6_doer I A J a1 a2 = some r) : CtI l yX6_doer cX6_doer 3 (some .int) { frames := 2, cells := 0, slots := 0, locals := 44 } G [.ref (ad 0), .int a1, .int a2] (w_X6 G ad I A J) (w_X6 G ad I A J) sz r := by
  refine ct_of (by decide) (Nat.le_of_ble_eq_true rfl) (fun p e s m below meth c ls C w hsz hl => ?_)
  have hx := C.1
  have hb := C.2.1
  have hl : lv_has ls 3 [(0, .ref (ad 0)), (1, .int a1), (2, .int a2)] := hl
  unfold f_X6_doer at h
  refine lv_aload_n hx hb dX6_doer_0 rfl (lv_at hl 0 rfl) ?_
  refine lv_iload_n hx hb dX6_doer_1 rfl (lv_at hl 1 rfl) ?_
  refine lv_iload_n hx hb dX6_doer_2 rfl (lv_at hl 2 rfl) ?_
  obtain ⟨x3, hx3, h⟩ := bdS h
  have w0 := w.z
  refine cl_i (wc' := (w_X6 G ad I A J)) w0 (run_V (As := [.int a1, .int a2]) (rest := []) C w0 (c_X6_isTask l G ad  _ I A J a1 a2 x3 hx3) mt_X6_isTask tt_758 6 rfl rfl rfl rfl ⟨Nat.le_of_ble_eq_true rfl, Nat.le_of_ble_eq_true rfl⟩ hl.1 (Nat.le_of_ble_eq_true rfl) dX6_doer_3 ⟨Nat.le_of_ble_eq_true rfl, Nat.le_of_ble_eq_true rfl⟩) (fun H locs w => ?_)
  have w := w.uz
  refine lv_if_eq (tgt := 23) hx hb dX6_doer_6 (by decide) (fun c4 => ?_) (fun c4 => ?_)
  · rw [if_pos c4] at h
    refine lv_bipush (v := (-2)) hx hb dX6_doer_23 (by decide) ?_
    cases h
    exact ret_I C w rfl rfl dX6_doer_25
  · rw [if_neg c4] at h
    refine lv_aload_n hx hb dX6_doer_9 rfl (lv_at hl 0 rfl) ?_
    refine r_get C w 0 6 21 (.ref (ad 17)) ge_X6_0 rfl inX6 (by decide) tt_565 rfl dX6_doer_10 ?_
    refine lv_bipush (v := (6)) hx hb dX6_doer_13 (by decide) ?_
    refine lv_iload_n hx hb dX6_doer_15 rfl (lv_at hl 2 rfl) ?_
    refine lv_imul hx hb dX6_doer_16 ?_
    refine lv_iload_n hx hb dX6_doer_17 rfl (lv_at hl 1 rfl) ?_
    refine lv_iadd hx hb dX6_doer_18 ?_
    obtain ⟨hin5, h⟩ := gdS h
    refine r_iald C w 17 (A 21 ((6 * a2) + a1).toNatClampNeg) ge_X6_17 rfl hin5 dX6_doer_19 ?_
    refine lv_goto (tgt := 25) hx hb dX6_doer_20 (by decide) ?_
    cases h
    exact ret_I C w rfl rfl dX6_doer_25
set_option maxHeartbeats 4000000 in
set_option maxRecDepth 100000 in
theorem c_X6_told (l : Launch) (G : GG) (ad : Nat → Nat) (sz : Nat) (N : Nat) (I : Nat → Int32) (A : Nat → Nat → Int32) (J : Nat → Nat → Int64) (a1 : Int32) (a2 : Int32) (r : Int32) (h : f_X6_told N I A J a1 a2 = some r) : CtI l yX6_told cX6_told 3 (some .int) { frames := 2, cells := 0, slots := 0, locals := 42 } G [.ref (ad 0), .int a1, .int a2] (w_X6 G ad I A J) (w_X6 G ad I A J) sz r := by
  refine ct_of (by decide) (Nat.le_of_ble_eq_true rfl) (fun p e s m below meth c ls C w hsz hl => ?_)
  have hx := C.1
  have hb := C.2.1
  have hl : lv_has ls 3 [(0, .ref (ad 0)), (1, .int a1), (2, .int a2)] := hl
  unfold f_X6_told at h
  refine lv_iload_n hx hb dX6_told_0 rfl (lv_at hl 1 rfl) ?_
  obtain ⟨x7, hx7, h⟩ := bdS h
  have w0 : WD G _ ([] ++ ([] ++ (w_X6 G ad I A J))) s _ _ := w
  refine cl_i (wc' := []) w0 (run_S (As := [.int a1]) (rest := []) C w0 (c_X6_isUser l G  _ a1 x7 hx7) mt_X6_isUser tt_638 rfl rfl ⟨Nat.le_of_ble_eq_true rfl, Nat.le_of_ble_eq_true rfl⟩ hl.1 (Nat.le_of_ble_eq_true rfl) dX6_told_1 ⟨Nat.le_of_ble_eq_true rfl, Nat.le_of_ble_eq_true rfl⟩) (fun H locs w => ?_)
  have w : WD G _ (w_X6 G ad I A J) s H locs := w
  refine lv_if_eq (tgt := 16) hx hb dX6_told_4 (by decide) (fun c8 => ?_) (fun c8 => ?_)
  · rw [if_pos c8] at h
    refine lv_bipush (v := (-2)) hx hb dX6_told_16 (by decide) ?_
    cases h
    exact ret_I C w rfl rfl dX6_told_18
  · rw [if_neg c8] at h
    refine lv_iload_n hx hb dX6_told_7 rfl (lv_at hl 2 rfl) ?_
    refine lv_iconst (v := 0) hx hb dX6_told_8 (by decide) ?_
    refine lv_iconst (v := 3) hx hb dX6_told_9 (by decide) ?_
    obtain ⟨x9, hx9, h⟩ := bdS h
    have w0 : WD G _ ([] ++ ([] ++ (w_X6 G ad I A J))) s _ _ := w
    refine cl_i (wc' := []) w0 (run_S (As := [.int a2, .int 0, .int 3]) (rest := []) C w0 (c_X6_isIn l G  _ a2 0 3 x9 hx9) mt_X6_isIn tt_630 rfl rfl ⟨Nat.le_of_ble_eq_true rfl, Nat.le_of_ble_eq_true rfl⟩ hl.1 (Nat.le_of_ble_eq_true rfl) dX6_told_10 ⟨Nat.le_of_ble_eq_true rfl, Nat.le_of_ble_eq_true rfl⟩) (fun H locs w => ?_)
    have w : WD G _ (w_X6 G ad I A J) s H locs := w
    refine lv_if_ne (tgt := 19) hx hb dX6_told_13 (by decide) (fun c10 => ?_) (fun c10 => ?_)
    · rw [if_neg c10] at h
      refine lv_iload_n hx hb dX6_told_19 rfl (lv_at hl 2 rfl) ?_
      refine lv_if_ne (tgt := 32) hx hb dX6_told_20 (by decide) (fun c11 => ?_) (fun c11 => ?_)
      · rw [if_neg c11] at h
        refine lv_iload_n hx hb dX6_told_32 rfl (lv_at hl 2 rfl) ?_
        refine lv_iconst (v := 1) hx hb dX6_told_33 (by decide) ?_
        refine lv_icmp_ne (tgt := 46) hx hb dX6_told_34 (by decide) (fun c12 => ?_) (fun c12 => ?_)
        · rw [if_neg c12] at h
          refine lv_iload_n hx hb dX6_told_46 rfl (lv_at hl 2 rfl) ?_
          refine lv_iconst (v := 2) hx hb dX6_told_47 (by decide) ?_
          refine lv_icmp_ne (tgt := 60) hx hb dX6_told_48 (by decide) (fun c13 => ?_) (fun c13 => ?_)
          · rw [if_neg c13] at h
            refine lv_aload_n hx hb dX6_told_60 rfl (lv_at hl 0 rfl) ?_
            refine lv_iload_n hx hb dX6_told_61 rfl (lv_at hl 1 rfl) ?_
            obtain ⟨x14, hx14, h⟩ := bdS h
            have w0 := w.z
            refine cl_i (wc' := (w_X6 G ad I A J)) w0 (run_V (As := [.int a1]) (rest := []) C w0 (c_X6_duties l G ad  _ N I A J a1 x14 hx14) mt_X6_duties tt_691 6 rfl rfl rfl rfl ⟨Nat.le_of_ble_eq_true rfl, Nat.le_of_ble_eq_true rfl⟩ hl.1 (Nat.le_of_ble_eq_true rfl) dX6_told_62 ⟨Nat.le_of_ble_eq_true rfl, Nat.le_of_ble_eq_true rfl⟩) (fun H locs w => ?_)
            have w := w.uz
            cases h
            exact ret_I C w rfl rfl dX6_told_65
          · rw [if_pos c13] at h
            refine lv_aload_n hx hb dX6_told_51 rfl (lv_at hl 0 rfl) ?_
            refine r_get C w 0 6 3 (.ref (ad 3)) ge_X6_0 rfl inX6 (by decide) tt_547 rfl dX6_told_52 ?_
            refine lv_iload_n hx hb dX6_told_55 rfl (lv_at hl 1 rfl) ?_
            obtain ⟨hin15, h⟩ := gdS h
            refine r_iald C w 3 (A 3 a1.toNatClampNeg) ge_X6_3 rfl hin15 dX6_told_56 ?_
            refine lv_goto (tgt := 65) hx hb dX6_told_57 (by decide) ?_
            cases h
            exact ret_I C w rfl rfl dX6_told_65
        · rw [if_pos c12] at h
          refine lv_aload_n hx hb dX6_told_37 rfl (lv_at hl 0 rfl) ?_
          refine r_get C w 0 6 2 (.ref (ad 2)) ge_X6_0 rfl inX6 (by decide) tt_546 rfl dX6_told_38 ?_
          refine lv_iload_n hx hb dX6_told_41 rfl (lv_at hl 1 rfl) ?_
          obtain ⟨hin16, h⟩ := gdS h
          refine r_iald C w 2 (A 2 a1.toNatClampNeg) ge_X6_2 rfl hin16 dX6_told_42 ?_
          refine lv_goto (tgt := 65) hx hb dX6_told_43 (by decide) ?_
          cases h
          exact ret_I C w rfl rfl dX6_told_65
      · rw [if_pos c11] at h
        refine lv_aload_n hx hb dX6_told_23 rfl (lv_at hl 0 rfl) ?_
        refine r_get C w 0 6 1 (.ref (ad 1)) ge_X6_0 rfl inX6 (by decide) tt_545 rfl dX6_told_24 ?_
        refine lv_iload_n hx hb dX6_told_27 rfl (lv_at hl 1 rfl) ?_
        obtain ⟨hin17, h⟩ := gdS h
        refine r_iald C w 1 (A 1 a1.toNatClampNeg) ge_X6_1 rfl hin17 dX6_told_28 ?_
        refine lv_goto (tgt := 65) hx hb dX6_told_29 (by decide) ?_
        cases h
        exact ret_I C w rfl rfl dX6_told_65
    · rw [if_pos c10] at h
      refine lv_bipush (v := (-2)) hx hb dX6_told_16 (by decide) ?_
      cases h
      exact ret_I C w rfl rfl dX6_told_18
set_option maxHeartbeats 4000000 in
set_option maxRecDepth 100000 in
theorem c_X6_glassTold (l : Launch) (G : GG) (ad : Nat → Nat) (sz : Nat) (I : Nat → Int32) (A : Nat → Nat → Int32) (J : Nat → Nat → Int64) (a1 : Int32) (a2 : Int32) (r : Int32) (h : f_X6_glassTold I A J a1 a2 = some r) : CtI l yX6_glassTold cX6_glassTold 3 (some .int) { frames := 1, cells := 0, slots := 0, locals := 22 } G [.ref (ad 0), .int a1, .int a2] (w_X6 G ad I A J) (w_X6 G ad I A J) sz r := by
  refine ct_of (by decide) (Nat.le_of_ble_eq_true rfl) (fun p e s m below meth c ls C w hsz hl => ?_)
  have hx := C.1
  have hb := C.2.1
  have hl : lv_has ls 3 [(0, .ref (ad 0)), (1, .int a1), (2, .int a2)] := hl
  unfold f_X6_glassTold at h
  refine lv_iload_n hx hb dX6_glassTold_0 rfl (lv_at hl 1 rfl) ?_
  refine lv_iconst (v := 0) hx hb dX6_glassTold_1 (by decide) ?_
  refine lv_aload_n hx hb dX6_glassTold_2 rfl (lv_at hl 0 rfl) ?_
  refine r_get C w 0 6 12 (.int (I 12)) ge_X6_0 rfl inX6 (by decide) tt_556 rfl dX6_glassTold_3 ?_
  refine lv_iconst (v := 1) hx hb dX6_glassTold_6 (by decide) ?_
  refine lv_isub hx hb dX6_glassTold_7 ?_
  obtain ⟨x8, hx8, h⟩ := bdS h
  have w0 : WD G _ ([] ++ ([] ++ (w_X6 G ad I A J))) s _ _ := w
  refine cl_i (wc' := []) w0 (run_S (As := [.int a1, .int 0, .int ((I 12) - 1)]) (rest := []) C w0 (c_X6_isIn l G  _ a1 0 ((I 12) - 1) x8 hx8) mt_X6_isIn tt_630 rfl rfl ⟨Nat.le_of_ble_eq_true rfl, Nat.le_of_ble_eq_true rfl⟩ hl.1 (Nat.le_of_ble_eq_true rfl) dX6_glassTold_8 ⟨Nat.le_of_ble_eq_true rfl, Nat.le_of_ble_eq_true rfl⟩) (fun H locs w => ?_)
  have w : WD G _ (w_X6 G ad I A J) s H locs := w
  refine lv_if_eq (tgt := 23) hx hb dX6_glassTold_11 (by decide) (fun c9 => ?_) (fun c9 => ?_)
  · rw [if_pos c9] at h
    refine lv_bipush (v := (-2)) hx hb dX6_glassTold_23 (by decide) ?_
    cases h
    exact ret_I C w rfl rfl dX6_glassTold_25
  · rw [if_neg c9] at h
    refine lv_iload_n hx hb dX6_glassTold_14 rfl (lv_at hl 2 rfl) ?_
    refine lv_iconst (v := 0) hx hb dX6_glassTold_15 (by decide) ?_
    refine lv_iconst (v := 4) hx hb dX6_glassTold_16 (by decide) ?_
    obtain ⟨x10, hx10, h⟩ := bdS h
    have w0 : WD G _ ([] ++ ([] ++ (w_X6 G ad I A J))) s _ _ := w
    refine cl_i (wc' := []) w0 (run_S (As := [.int a2, .int 0, .int 4]) (rest := []) C w0 (c_X6_isIn l G  _ a2 0 4 x10 hx10) mt_X6_isIn tt_630 rfl rfl ⟨Nat.le_of_ble_eq_true rfl, Nat.le_of_ble_eq_true rfl⟩ hl.1 (Nat.le_of_ble_eq_true rfl) dX6_glassTold_17 ⟨Nat.le_of_ble_eq_true rfl, Nat.le_of_ble_eq_true rfl⟩) (fun H locs w => ?_)
    have w : WD G _ (w_X6 G ad I A J) s H locs := w
    refine lv_if_ne (tgt := 26) hx hb dX6_glassTold_20 (by decide) (fun c11 => ?_) (fun c11 => ?_)
    · rw [if_neg c11] at h
      refine lv_iload_n hx hb dX6_glassTold_26 rfl (lv_at hl 2 rfl) ?_
      by_cases c12 : a2 = 0
      · rw [if_pos c12] at h
        refine lv_tableIn (off := 29) (tgt := 56) hx hb dX6_glassTold_27 (by rw [c12]; decide) (by rw [c12]; decide) (by rw [c12]; rfl) (by decide) ?_
        refine lv_aload_n hx hb dX6_glassTold_56 rfl (lv_at hl 0 rfl) ?_
        refine r_get C w 0 6 8 (.ref (ad 6)) ge_X6_0 rfl inX6 (by decide) tt_552 rfl dX6_glassTold_57 ?_
        refine lv_iload_n hx hb dX6_glassTold_60 rfl (lv_at hl 1 rfl) ?_
        obtain ⟨hin13, h⟩ := gdS h
        refine r_iald C w 6 (A 8 a1.toNatClampNeg) ge_X6_6 rfl hin13 dX6_glassTold_61 ?_
        cases h
        exact ret_I C w rfl rfl dX6_glassTold_62
      · rw [if_neg c12] at h
        by_cases c14 : a2 = 1
        · rw [if_pos c14] at h
          refine lv_tableIn (off := 36) (tgt := 63) hx hb dX6_glassTold_27 (by rw [c14]; decide) (by rw [c14]; decide) (by rw [c14]; rfl) (by decide) ?_
          refine lv_aload_n hx hb dX6_glassTold_63 rfl (lv_at hl 0 rfl) ?_
          refine r_get C w 0 6 9 (.ref (ad 7)) ge_X6_0 rfl inX6 (by decide) tt_553 rfl dX6_glassTold_64 ?_
          refine lv_iload_n hx hb dX6_glassTold_67 rfl (lv_at hl 1 rfl) ?_
          obtain ⟨hin15, h⟩ := gdS h
          refine r_iald C w 7 (A 9 a1.toNatClampNeg) ge_X6_7 rfl hin15 dX6_glassTold_68 ?_
          cases h
          exact ret_I C w rfl rfl dX6_glassTold_69
        · rw [if_neg c14] at h
          by_cases c16 : a2 = 2
          · rw [if_pos c16] at h
            refine lv_tableIn (off := 43) (tgt := 70) hx hb dX6_glassTold_27 (by rw [c16]; decide) (by rw [c16]; decide) (by rw [c16]; rfl) (by decide) ?_
            refine lv_aload_n hx hb dX6_glassTold_70 rfl (lv_at hl 0 rfl) ?_
            refine r_get C w 0 6 10 (.ref (ad 8)) ge_X6_0 rfl inX6 (by decide) tt_554 rfl dX6_glassTold_71 ?_
            refine lv_iload_n hx hb dX6_glassTold_74 rfl (lv_at hl 1 rfl) ?_
            obtain ⟨hin17, h⟩ := gdS h
            refine r_iald C w 8 (A 10 a1.toNatClampNeg) ge_X6_8 rfl hin17 dX6_glassTold_75 ?_
            cases h
            exact ret_I C w rfl rfl dX6_glassTold_76
          · rw [if_neg c16] at h
            by_cases c18 : a2 = 3
            · rw [if_pos c18] at h
              refine lv_tableIn (off := 50) (tgt := 77) hx hb dX6_glassTold_27 (by rw [c18]; decide) (by rw [c18]; decide) (by rw [c18]; rfl) (by decide) ?_
              refine lv_aload_n hx hb dX6_glassTold_77 rfl (lv_at hl 0 rfl) ?_
              refine r_get C w 0 6 0 (.int (I 0)) ge_X6_0 rfl inX6 (by decide) tt_544 rfl dX6_glassTold_78 ?_
              refine lv_aload_n hx hb dX6_glassTold_81 rfl (lv_at hl 0 rfl) ?_
              refine r_get C w 0 6 10 (.ref (ad 8)) ge_X6_0 rfl inX6 (by decide) tt_554 rfl dX6_glassTold_82 ?_
              refine lv_iload_n hx hb dX6_glassTold_85 rfl (lv_at hl 1 rfl) ?_
              obtain ⟨hin19, h⟩ := gdS h
              refine r_iald C w 8 (A 10 a1.toNatClampNeg) ge_X6_8 rfl hin19 dX6_glassTold_86 ?_
              refine lv_icmp_ge (tgt := 94) hx hb dX6_glassTold_87 (by decide) (fun c20 => ?_) (fun c20 => ?_)
              · rw [if_pos c20] at h
                refine lv_iconst (v := 0) hx hb dX6_glassTold_94 (by decide) ?_
                cases h
                exact ret_I C w rfl rfl dX6_glassTold_95
              · rw [if_neg c20] at h
                refine lv_iconst (v := 1) hx hb dX6_glassTold_90 (by decide) ?_
                refine lv_goto (tgt := 95) hx hb dX6_glassTold_91 (by decide) ?_
                cases h
                exact ret_I C w rfl rfl dX6_glassTold_95
            · rw [if_neg c18] at h
              refine lv_tableOut (tgt := 96) hx hb dX6_glassTold_27 (sw_out 3 (by decide) (fun k hk => by rcases (show k = 0 ∨ k = 1 ∨ k = 2 ∨ k = 3 by omega) with rfl | rfl | rfl | rfl <;> assumption)) (by decide) ?_
              refine lv_aload_n hx hb dX6_glassTold_96 rfl (lv_at hl 0 rfl) ?_
              refine r_get C w 0 6 11 (.ref (ad 9)) ge_X6_0 rfl inX6 (by decide) tt_555 rfl dX6_glassTold_97 ?_
              refine lv_iload_n hx hb dX6_glassTold_100 rfl (lv_at hl 1 rfl) ?_
              obtain ⟨hin21, h⟩ := gdS h
              refine r_zald C w 9 (A 11 a1.toNatClampNeg) ge_X6_9 rfl hin21 dX6_glassTold_101 ?_
              refine lv_if_eq (tgt := 109) hx hb dX6_glassTold_102 (by decide) (fun c22 => ?_) (fun c22 => ?_)
              · rw [if_pos c22] at h
                refine lv_iconst (v := 0) hx hb dX6_glassTold_109 (by decide) ?_
                cases h
                exact ret_I C w rfl rfl dX6_glassTold_110
              · rw [if_neg c22] at h
                refine lv_iconst (v := 1) hx hb dX6_glassTold_105 (by decide) ?_
                refine lv_goto (tgt := 110) hx hb dX6_glassTold_106 (by decide) ?_
                cases h
                exact ret_I C w rfl rfl dX6_glassTold_110
    · rw [if_pos c11] at h
      refine lv_bipush (v := (-2)) hx hb dX6_glassTold_23 (by decide) ?_
      cases h
      exact ret_I C w rfl rfl dX6_glassTold_25
set_option maxHeartbeats 4000000 in
set_option maxRecDepth 100000 in
theorem c_X6_entry (l : Launch) (G : GG) (ad : Nat → Nat) (sz : Nat) (I : Nat → Int32) (A : Nat → Nat → Int32) (J : Nat → Nat → Int64) (a1 : Int32) (a2 : Int32) (r : Int32) (h : f_X6_entry I A J a1 a2 = some r) : CtI l yX6_entry cX6_entry 3 (some .int) { frames := 1, cells := 0, slots := 0, locals := 22 } G [.ref (ad 0), .int a1, .int a2] (w_X6 G ad I A J) (w_X6 G ad I A J) sz r := by
  refine ct_of (by decide) (Nat.le_of_ble_eq_true rfl) (fun p e s m below meth c ls C w hsz hl => ?_)
  have hx := C.1
  have hb := C.2.1
  have hl : lv_has ls 3 [(0, .ref (ad 0)), (1, .int a1), (2, .int a2)] := hl
  unfold f_X6_entry at h
  refine lv_iload_n hx hb dX6_entry_0 rfl (lv_at hl 1 rfl) ?_
  refine lv_iconst (v := 0) hx hb dX6_entry_1 (by decide) ?_
  refine lv_aload_n hx hb dX6_entry_2 rfl (lv_at hl 0 rfl) ?_
  refine r_get C w 0 6 25 (.int (I 25)) ge_X6_0 rfl inX6 (by decide) tt_569 rfl dX6_entry_3 ?_
  refine lv_iconst (v := 1) hx hb dX6_entry_6 (by decide) ?_
  refine lv_isub hx hb dX6_entry_7 ?_
  obtain ⟨x4, hx4, h⟩ := bdS h
  have w0 : WD G _ ([] ++ ([] ++ (w_X6 G ad I A J))) s _ _ := w
  refine cl_i (wc' := []) w0 (run_S (As := [.int a1, .int 0, .int ((I 25) - 1)]) (rest := []) C w0 (c_X6_isIn l G  _ a1 0 ((I 25) - 1) x4 hx4) mt_X6_isIn tt_630 rfl rfl ⟨Nat.le_of_ble_eq_true rfl, Nat.le_of_ble_eq_true rfl⟩ hl.1 (Nat.le_of_ble_eq_true rfl) dX6_entry_8 ⟨Nat.le_of_ble_eq_true rfl, Nat.le_of_ble_eq_true rfl⟩) (fun H locs w => ?_)
  have w : WD G _ (w_X6 G ad I A J) s H locs := w
  refine lv_if_eq (tgt := 36) hx hb dX6_entry_11 (by decide) (fun c5 => ?_) (fun c5 => ?_)
  · rw [if_pos c5] at h
    refine lv_bipush (v := (-2)) hx hb dX6_entry_36 (by decide) ?_
    cases h
    exact ret_I C w rfl rfl dX6_entry_38
  · rw [if_neg c5] at h
    refine lv_iload_n hx hb dX6_entry_14 rfl (lv_at hl 2 rfl) ?_
    refine lv_iconst (v := 0) hx hb dX6_entry_15 (by decide) ?_
    refine lv_iconst (v := 4) hx hb dX6_entry_16 (by decide) ?_
    obtain ⟨x6, hx6, h⟩ := bdS h
    have w0 : WD G _ ([] ++ ([] ++ (w_X6 G ad I A J))) s _ _ := w
    refine cl_i (wc' := []) w0 (run_S (As := [.int a2, .int 0, .int 4]) (rest := []) C w0 (c_X6_isIn l G  _ a2 0 4 x6 hx6) mt_X6_isIn tt_630 rfl rfl ⟨Nat.le_of_ble_eq_true rfl, Nat.le_of_ble_eq_true rfl⟩ hl.1 (Nat.le_of_ble_eq_true rfl) dX6_entry_17 ⟨Nat.le_of_ble_eq_true rfl, Nat.le_of_ble_eq_true rfl⟩) (fun H locs w => ?_)
    have w : WD G _ (w_X6 G ad I A J) s H locs := w
    refine lv_if_eq (tgt := 36) hx hb dX6_entry_20 (by decide) (fun c7 => ?_) (fun c7 => ?_)
    · rw [if_pos c7] at h
      refine lv_bipush (v := (-2)) hx hb dX6_entry_36 (by decide) ?_
      cases h
      exact ret_I C w rfl rfl dX6_entry_38
    · rw [if_neg c7] at h
      refine lv_aload_n hx hb dX6_entry_23 rfl (lv_at hl 0 rfl) ?_
      refine r_get C w 0 6 23 (.ref (ad 18)) ge_X6_0 rfl inX6 (by decide) tt_567 rfl dX6_entry_24 ?_
      refine lv_iconst (v := 5) hx hb dX6_entry_27 (by decide) ?_
      refine lv_iload_n hx hb dX6_entry_28 rfl (lv_at hl 1 rfl) ?_
      refine lv_imul hx hb dX6_entry_29 ?_
      refine lv_iload_n hx hb dX6_entry_30 rfl (lv_at hl 2 rfl) ?_
      refine lv_iadd hx hb dX6_entry_31 ?_
      obtain ⟨hin8, h⟩ := gdS h
      refine r_iald C w 18 (A 23 ((5 * a1) + a2).toNatClampNeg) ge_X6_18 rfl hin8 dX6_entry_32 ?_
      refine lv_goto (tgt := 38) hx hb dX6_entry_33 (by decide) ?_
      cases h
      exact ret_I C w rfl rfl dX6_entry_38
set_option maxHeartbeats 4000000 in
set_option maxRecDepth 100000 in
theorem c_X6_link (l : Launch) (G : GG) (ad : Nat → Nat) (sz : Nat) (I : Nat → Int32) (A : Nat → Nat → Int32) (J : Nat → Nat → Int64) (a1 : Int32) (r : Int64) (h : f_X6_link I A J a1 = some r) : CtL l yX6_link cX6_link 2 (some .long) { frames := 1, cells := 0, slots := 0, locals := 22 } G [.ref (ad 0), .int a1] (w_X6 G ad I A J) (w_X6 G ad I A J) sz r := by
  refine ct_of (by decide) (Nat.le_of_ble_eq_true rfl) (fun p e s m below meth c ls C w hsz hl => ?_)
  have hx := C.1
  have hb := C.2.1
  have hl : lv_has ls 2 [(0, .ref (ad 0)), (1, .int a1)] := hl
  unfold f_X6_link at h
  refine lv_iload_n hx hb dX6_link_0 rfl (lv_at hl 1 rfl) ?_
  refine lv_iconst (v := 0) hx hb dX6_link_1 (by decide) ?_
  refine lv_aload_n hx hb dX6_link_2 rfl (lv_at hl 0 rfl) ?_
  refine r_get C w 0 6 25 (.int (I 25)) ge_X6_0 rfl inX6 (by decide) tt_569 rfl dX6_link_3 ?_
  refine lv_iconst (v := 1) hx hb dX6_link_6 (by decide) ?_
  refine lv_isub hx hb dX6_link_7 ?_
  obtain ⟨x3, hx3, h⟩ := bdS h
  have w0 : WD G _ ([] ++ ([] ++ (w_X6 G ad I A J))) s _ _ := w
  refine cl_i (wc' := []) w0 (run_S (As := [.int a1, .int 0, .int ((I 25) - 1)]) (rest := []) C w0 (c_X6_isIn l G  _ a1 0 ((I 25) - 1) x3 hx3) mt_X6_isIn tt_630 rfl rfl ⟨Nat.le_of_ble_eq_true rfl, Nat.le_of_ble_eq_true rfl⟩ hl.1 (Nat.le_of_ble_eq_true rfl) dX6_link_8 ⟨Nat.le_of_ble_eq_true rfl, Nat.le_of_ble_eq_true rfl⟩) (fun H locs w => ?_)
  have w : WD G _ (w_X6 G ad I A J) s H locs := w
  refine lv_if_eq (tgt := 23) hx hb dX6_link_11 (by decide) (fun c4 => ?_) (fun c4 => ?_)
  · rw [if_pos c4] at h
    refine lv_lconst (v := 0) hx hb dX6_link_23 (by decide) ?_
    cases h
    exact ret_L C w rfl rfl dX6_link_24
  · rw [if_neg c4] at h
    refine lv_aload_n hx hb dX6_link_14 rfl (lv_at hl 0 rfl) ?_
    refine r_get C w 0 6 24 (.ref (ad 19)) ge_X6_0 rfl inX6 (by decide) tt_568 rfl dX6_link_15 ?_
    refine lv_iload_n hx hb dX6_link_18 rfl (lv_at hl 1 rfl) ?_
    obtain ⟨hin5, h⟩ := gdS h
    refine r_lald C w 19 (J 24 a1.toNatClampNeg) ge_X6_19 rfl hin5 dX6_link_19 ?_
    refine lv_goto (tgt := 24) hx hb dX6_link_20 (by decide) ?_
    cases h
    exact ret_L C w rfl rfl dX6_link_24
set_option maxHeartbeats 4000000 in
set_option maxRecDepth 100000 in
theorem c_X6_alter (l : Launch) (G : GG) (ad : Nat → Nat) (sz : Nat) (I : Nat → Int32) (A : Nat → Nat → Int32) (J : Nat → Nat → Int64) (a1 : Int32) (a2 : Int32) (a3 : Int32) (r : Int32) (I' : Nat → Int32) (A' : Nat → Nat → Int32) (J' : Nat → Nat → Int64) (h : f_X6_alter I A J a1 a2 a3 = some (r, I', A', J')) : CtI l yX6_alter cX6_alter 5 (some .int) { frames := 1, cells := 0, slots := 0, locals := 22 } G [.ref (ad 0), .int a1, .int a2, .int a3] (w_X6 G ad I A J) (w_X6 G ad I' A' J') sz r := by
  refine ct_of (by decide) (Nat.le_of_ble_eq_true rfl) (fun p e s m below meth c ls C w hsz hl => ?_)
  have hx := C.1
  have hb := C.2.1
  have hl : lv_has ls 5 [(0, .ref (ad 0)), (1, .int a1), (2, .int a2), (3, .int a3)] := hl
  unfold f_X6_alter at h
  refine lv_iload_n hx hb dX6_alter_0 rfl (lv_at hl 1 rfl) ?_
  refine lv_iconst (v := 0) hx hb dX6_alter_1 (by decide) ?_
  refine lv_aload_n hx hb dX6_alter_2 rfl (lv_at hl 0 rfl) ?_
  refine r_get C w 0 6 25 (.int (I 25)) ge_X6_0 rfl inX6 (by decide) tt_569 rfl dX6_alter_3 ?_
  refine lv_iconst (v := 1) hx hb dX6_alter_6 (by decide) ?_
  refine lv_isub hx hb dX6_alter_7 ?_
  obtain ⟨x5, hx5, h⟩ := bdS h
  have w0 : WD G _ ([] ++ ([] ++ (w_X6 G ad I A J))) s _ _ := w
  refine cl_i (wc' := []) w0 (run_S (As := [.int a1, .int 0, .int ((I 25) - 1)]) (rest := []) C w0 (c_X6_isIn l G  _ a1 0 ((I 25) - 1) x5 hx5) mt_X6_isIn tt_630 rfl rfl ⟨Nat.le_of_ble_eq_true rfl, Nat.le_of_ble_eq_true rfl⟩ hl.1 (Nat.le_of_ble_eq_true rfl) dX6_alter_8 ⟨Nat.le_of_ble_eq_true rfl, Nat.le_of_ble_eq_true rfl⟩) (fun H locs w => ?_)
  have w : WD G _ (w_X6 G ad I A J) s H locs := w
  refine lv_if_eq (tgt := 23) hx hb dX6_alter_11 (by decide) (fun c6 => ?_) (fun c6 => ?_)
  · rw [if_pos c6] at h
    refine lv_bipush (v := (-2)) hx hb dX6_alter_23 (by decide) ?_
    cases h
    exact ret_I C w rfl rfl dX6_alter_25
  · rw [if_neg c6] at h
    refine lv_iload_n hx hb dX6_alter_14 rfl (lv_at hl 2 rfl) ?_
    refine lv_iconst (v := 0) hx hb dX6_alter_15 (by decide) ?_
    refine lv_iconst (v := 4) hx hb dX6_alter_16 (by decide) ?_
    obtain ⟨x7, hx7, h⟩ := bdS h
    have w0 : WD G _ ([] ++ ([] ++ (w_X6 G ad I A J))) s _ _ := w
    refine cl_i (wc' := []) w0 (run_S (As := [.int a2, .int 0, .int 4]) (rest := []) C w0 (c_X6_isIn l G  _ a2 0 4 x7 hx7) mt_X6_isIn tt_630 rfl rfl ⟨Nat.le_of_ble_eq_true rfl, Nat.le_of_ble_eq_true rfl⟩ hl.1 (Nat.le_of_ble_eq_true rfl) dX6_alter_17 ⟨Nat.le_of_ble_eq_true rfl, Nat.le_of_ble_eq_true rfl⟩) (fun H locs w => ?_)
    have w : WD G _ (w_X6 G ad I A J) s H locs := w
    refine lv_if_ne (tgt := 26) hx hb dX6_alter_20 (by decide) (fun c8 => ?_) (fun c8 => ?_)
    · rw [if_neg c8] at h
      refine lv_aload_n hx hb dX6_alter_26 rfl (lv_at hl 0 rfl) ?_
      refine r_get C w 0 6 23 (.ref (ad 18)) ge_X6_0 rfl inX6 (by decide) tt_567 rfl dX6_alter_27 ?_
      refine lv_iconst (v := 5) hx hb dX6_alter_30 (by decide) ?_
      refine lv_iload_n hx hb dX6_alter_31 rfl (lv_at hl 1 rfl) ?_
      refine lv_imul hx hb dX6_alter_32 ?_
      refine lv_iload_n hx hb dX6_alter_33 rfl (lv_at hl 2 rfl) ?_
      refine lv_iadd hx hb dX6_alter_34 ?_
      obtain ⟨hin9, h⟩ := gdS h
      refine r_iald C w 18 (A 23 ((5 * a1) + a2).toNatClampNeg) ge_X6_18 rfl hin9 dX6_alter_35 ?_
      refine lv_istore (lv' := [(4, .int (A 23 ((5 * a1) + a2).toNatClampNeg)), (0, .ref (ad 0)), (1, .int a1), (2, .int a2), (3, .int a3)]) hx hb dX6_alter_36 hl (by decide) rfl (fun ls hl => ?_)
      refine lv_aload_n hx hb dX6_alter_38 rfl (lv_at hl 1 rfl) ?_
      refine r_get C w 0 6 23 (.ref (ad 18)) ge_X6_0 rfl inX6 (by decide) tt_567 rfl dX6_alter_39 ?_
      refine lv_iconst (v := 5) hx hb dX6_alter_42 (by decide) ?_
      refine lv_iload_n hx hb dX6_alter_43 rfl (lv_at hl 2 rfl) ?_
      refine lv_imul hx hb dX6_alter_44 ?_
      refine lv_iload_n hx hb dX6_alter_45 rfl (lv_at hl 3 rfl) ?_
      refine lv_iadd hx hb dX6_alter_46 ?_
      refine lv_iload_n hx hb dX6_alter_47 rfl (lv_at hl 4 rfl) ?_
      obtain ⟨hin10, h⟩ := gdS h
      refine r_iast C w 18 (w_X6 G ad I (aS A 23 ((5 * a1) + a2).toNatClampNeg a3) J) ge_X6_18 hin10 st_X6_18 dX6_alter_48 (fun H locs w => ?_)
      refine lv_iload hx hb dX6_alter_49 (lv_at hl 0 rfl) ?_
      cases h
      exact ret_I C w rfl rfl dX6_alter_51
    · rw [if_pos c8] at h
      refine lv_bipush (v := (-2)) hx hb dX6_alter_23 (by decide) ?_
      cases h
      exact ret_I C w rfl rfl dX6_alter_25
set_option maxHeartbeats 4000000 in
set_option maxRecDepth 100000 in
theorem w_X6_check_2 {p : Program} {l : Launch} {e : Env} {s : State} {m : MethodId} {args : Array Value} {below : List Frame} {meth : Method} {c : Code} {FA : Nat → Prop} {G : GG} {ad : Nat → Nat} {r : Int32} {I : Nat → Int32} {A : Nat → Nat → Int32} {J : Nat → Nat → Int64} (C : CX p m meth c s args yX6_check cX6_check 2 (some .int)) (N : Nat) : ∀ n : Nat, ∀ (v1 : Int32), f_X6_check_2 N I A J n v1 = some r → ∀ (H : Heap) (locs : List Loc), WD G FA (w_X6 G ad I A J) s H locs → ∀ ls : Array Slot, lv_has ls 2 [(0, .ref (ad 0)), (1, .int v1)] → W p l e { frames := 2, cells := 0, slots := 0, locals := 51 } s m args below meth c H locs 0 0 (EnI below G FA args s (w_X6 G ad I A J) r) (F0 m 2 ls []) := by
  have hx := C.1
  have hb := C.2.1
  intro n
  induction n with
  | zero =>
    intro v1 h
    cases h
  | succ n ih =>
    intro v1 h H locs w ls hl
    rw [f_X6_check_2] at h
    refine lv_iload_n hx hb dX6_check_2 rfl (lv_at hl 1 rfl) ?_
    refine lv_aload_n hx hb dX6_check_3 rfl (lv_at hl 0 rfl) ?_
    refine r_get C w 0 6 25 (.int (I 25)) ge_X6_0 rfl inX6 (by decide) tt_569 rfl dX6_check_4 ?_
    refine lv_icmp_ge (tgt := 33) hx hb dX6_check_7 (by decide) (fun c3 => ?_) (fun c3 => ?_)
    · rw [if_pos c3] at h
      refine lv_iconst (v := (-1)) hx hb dX6_check_33 (by decide) ?_
      cases h
      exact ret_I C w rfl rfl dX6_check_34
    · rw [if_neg c3] at h
      refine lv_aload_n hx hb dX6_check_10 rfl (lv_at hl 0 rfl) ?_
      refine lv_iload_n hx hb dX6_check_11 rfl (lv_at hl 1 rfl) ?_
      obtain ⟨x4, hx4, h⟩ := bdS h
      have w0 := w.z
      refine cl_l (wc' := (w_X6 G ad I A J)) w0 (run_V (As := [.int v1]) (rest := []) C w0 (c_X6_linkAt l G ad  _ N I A J v1 x4 hx4) mt_X6_linkAt tt_673 6 rfl rfl rfl rfl ⟨Nat.le_of_ble_eq_true rfl, Nat.le_of_ble_eq_true rfl⟩ hl.1 (Nat.le_of_ble_eq_true rfl) dX6_check_12 ⟨Nat.le_of_ble_eq_true rfl, Nat.le_of_ble_eq_true rfl⟩) (fun H locs w => ?_)
      have w := w.uz
      refine lv_aload_n hx hb dX6_check_15 rfl (lv_at hl 0 rfl) ?_
      refine r_get C w 0 6 24 (.ref (ad 19)) ge_X6_0 rfl inX6 (by decide) tt_568 rfl dX6_check_16 ?_
      refine lv_iload_n hx hb dX6_check_19 rfl (lv_at hl 1 rfl) ?_
      obtain ⟨hin5, h⟩ := gdS h
      refine r_lald C w 19 (J 24 v1.toNatClampNeg) ge_X6_19 rfl hin5 dX6_check_20 ?_
      refine W.lcmp hx hb dX6_check_21 ?_
      refine lv_if_eq (tgt := 27) hx hb dX6_check_22 (by decide) (fun c6 => ?_) (fun c6 => ?_)
      · rw [if_pos c6] at h
        refine lv_iinc (v := v1 + 1) (lv' := [(1, .int (v1 + 1)), (0, .ref (ad 0))]) hx hb dX6_check_27 hl (k := 1) rfl rfl (by decide) rfl (fun ls hl => ?_)
        refine lv_goto (tgt := 2) hx hb dX6_check_30 (by decide) ?_
        exact ih (v1 + 1) h _ _ w _ (lv_sub hl [1, 0] rfl)
      · rw [if_neg c6] at h
        refine lv_iload_n hx hb dX6_check_25 rfl (lv_at hl 1 rfl) ?_
        cases h
        exact ret_I C w rfl rfl dX6_check_26
set_option maxHeartbeats 4000000 in
set_option maxRecDepth 100000 in
theorem c_X6_check (l : Launch) (G : GG) (ad : Nat → Nat) (sz : Nat) (N : Nat) (I : Nat → Int32) (A : Nat → Nat → Int32) (J : Nat → Nat → Int64) (r : Int32) (h : f_X6_check N I A J = some r) : CtI l yX6_check cX6_check 2 (some .int) { frames := 2, cells := 0, slots := 0, locals := 51 } G [.ref (ad 0)] (w_X6 G ad I A J) (w_X6 G ad I A J) sz r := by
  refine ct_of (by decide) (Nat.le_of_ble_eq_true rfl) (fun p e s m below meth c ls C w hsz hl => ?_)
  have hx := C.1
  have hb := C.2.1
  have hl : lv_has ls 2 [(0, .ref (ad 0))] := hl
  unfold f_X6_check at h
  refine lv_iconst (v := 0) hx hb dX6_check_0 (by decide) ?_
  refine lv_istore_n (lv' := [(1, .int 0), (0, .ref (ad 0))]) hx hb dX6_check_1 rfl hl (by decide) rfl (fun ls hl => ?_)
  exact w_X6_check_2 C N N 0 h _ _ w _ (lv_sub hl [1, 0] rfl)
set_option maxHeartbeats 4000000 in
set_option maxRecDepth 100000 in
theorem c_X6_count (l : Launch) (G : GG) (ad : Nat → Nat) (sz : Nat) (I : Nat → Int32) (A : Nat → Nat → Int32) (J : Nat → Nat → Int64) (a1 : Int32) (r : Int32) (h : f_X6_count I A J a1 = some r) : CtI l yX6_count cX6_count 2 (some .int) { frames := 0, cells := 0, slots := 0, locals := 0 } G [.ref (ad 0), .int a1] (w_X6 G ad I A J) (w_X6 G ad I A J) sz r := by
  refine ct_of (by decide) (Nat.le_of_ble_eq_true rfl) (fun p e s m below meth c ls C w hsz hl => ?_)
  have hx := C.1
  have hb := C.2.1
  have hl : lv_has ls 2 [(0, .ref (ad 0)), (1, .int a1)] := hl
  unfold f_X6_count at h
  refine lv_iload_n hx hb dX6_count_0 rfl (lv_at hl 1 rfl) ?_
  by_cases c1 : a1 = 0
  · rw [if_pos c1] at h
    refine lv_tableIn (off := 43) (tgt := 44) hx hb dX6_count_1 (by rw [c1]; decide) (by rw [c1]; decide) (by rw [c1]; rfl) (by decide) ?_
    refine lv_aload_n hx hb dX6_count_44 rfl (lv_at hl 0 rfl) ?_
    refine r_get C w 0 6 0 (.int (I 0)) ge_X6_0 rfl inX6 (by decide) tt_544 rfl dX6_count_45 ?_
    cases h
    exact ret_I C w rfl rfl dX6_count_48
  · rw [if_neg c1] at h
    by_cases c2 : a1 = 1
    · rw [if_pos c2] at h
      refine lv_tableIn (off := 48) (tgt := 49) hx hb dX6_count_1 (by rw [c2]; decide) (by rw [c2]; decide) (by rw [c2]; rfl) (by decide) ?_
      refine lv_aload_n hx hb dX6_count_49 rfl (lv_at hl 0 rfl) ?_
      refine r_get C w 0 6 5 (.int (I 5)) ge_X6_0 rfl inX6 (by decide) tt_549 rfl dX6_count_50 ?_
      cases h
      exact ret_I C w rfl rfl dX6_count_53
    · rw [if_neg c2] at h
      by_cases c3 : a1 = 2
      · rw [if_pos c3] at h
        refine lv_tableIn (off := 53) (tgt := 54) hx hb dX6_count_1 (by rw [c3]; decide) (by rw [c3]; decide) (by rw [c3]; rfl) (by decide) ?_
        refine lv_aload_n hx hb dX6_count_54 rfl (lv_at hl 0 rfl) ?_
        refine r_get C w 0 6 7 (.int (I 7)) ge_X6_0 rfl inX6 (by decide) tt_551 rfl dX6_count_55 ?_
        cases h
        exact ret_I C w rfl rfl dX6_count_58
      · rw [if_neg c3] at h
        by_cases c4 : a1 = 3
        · rw [if_pos c4] at h
          refine lv_tableIn (off := 58) (tgt := 59) hx hb dX6_count_1 (by rw [c4]; decide) (by rw [c4]; decide) (by rw [c4]; rfl) (by decide) ?_
          refine lv_aload_n hx hb dX6_count_59 rfl (lv_at hl 0 rfl) ?_
          refine r_get C w 0 6 12 (.int (I 12)) ge_X6_0 rfl inX6 (by decide) tt_556 rfl dX6_count_60 ?_
          cases h
          exact ret_I C w rfl rfl dX6_count_63
        · rw [if_neg c4] at h
          by_cases c5 : a1 = 4
          · rw [if_pos c5] at h
            refine lv_tableIn (off := 63) (tgt := 64) hx hb dX6_count_1 (by rw [c5]; decide) (by rw [c5]; decide) (by rw [c5]; rfl) (by decide) ?_
            refine lv_aload_n hx hb dX6_count_64 rfl (lv_at hl 0 rfl) ?_
            refine r_get C w 0 6 19 (.int (I 19)) ge_X6_0 rfl inX6 (by decide) tt_563 rfl dX6_count_65 ?_
            cases h
            exact ret_I C w rfl rfl dX6_count_68
          · rw [if_neg c5] at h
            by_cases c6 : a1 = 5
            · rw [if_pos c6] at h
              refine lv_tableIn (off := 68) (tgt := 69) hx hb dX6_count_1 (by rw [c6]; decide) (by rw [c6]; decide) (by rw [c6]; rfl) (by decide) ?_
              refine lv_aload_n hx hb dX6_count_69 rfl (lv_at hl 0 rfl) ?_
              refine r_get C w 0 6 22 (.int (I 22)) ge_X6_0 rfl inX6 (by decide) tt_566 rfl dX6_count_70 ?_
              cases h
              exact ret_I C w rfl rfl dX6_count_73
            · rw [if_neg c6] at h
              by_cases c7 : a1 = 6
              · rw [if_pos c7] at h
                refine lv_tableIn (off := 73) (tgt := 74) hx hb dX6_count_1 (by rw [c7]; decide) (by rw [c7]; decide) (by rw [c7]; rfl) (by decide) ?_
                refine lv_aload_n hx hb dX6_count_74 rfl (lv_at hl 0 rfl) ?_
                refine r_get C w 0 6 25 (.int (I 25)) ge_X6_0 rfl inX6 (by decide) tt_569 rfl dX6_count_75 ?_
                cases h
                exact ret_I C w rfl rfl dX6_count_78
              · rw [if_neg c7] at h
                refine lv_tableOut (tgt := 79) hx hb dX6_count_1 (sw_out 6 (by decide) (fun k hk => by rcases (show k = 0 ∨ k = 1 ∨ k = 2 ∨ k = 3 ∨ k = 4 ∨ k = 5 ∨ k = 6 by omega) with rfl | rfl | rfl | rfl | rfl | rfl | rfl <;> assumption)) (by decide) ?_
                refine lv_bipush (v := (-2)) hx hb dX6_count_79 (by decide) ?_
                cases h
                exact ret_I C w rfl rfl dX6_count_81
