set_option maxHeartbeats 4000000 in
set_option maxRecDepth 100000 in
theorem c_X5_tick (l : Launch) (G : GG) (ad : Nat → Nat) (sz : Nat) (I : Nat → Int32) (R : Nat → Int32) (WI : Nat → Int32) (WA : Nat → Nat → Int32) (GI : Nat → Int32) (GA : Nat → Nat → Int32) (LI : Nat → Int32) (LA : Nat → Nat → Int32) (LJ : Nat → Nat → Int64) (a1 : Int32) (r : Int32) (I' : Nat → Int32) (R' : Nat → Int32) (WI' : Nat → Int32) (WA' : Nat → Nat → Int32) (GI' : Nat → Int32) (GA' : Nat → Nat → Int32) (LI' : Nat → Int32) (LA' : Nat → Nat → Int32) (LJ' : Nat → Nat → Int64) (h : f_X5_tick I R WI WA GI GA LI LA LJ a1 = some (r, I', R', WI', WA', GI', GA', LI', LA', LJ')) : CtI l yX5_tick cX5_tick 2 (some .int) { frames := 0, cells := 0, slots := 0, locals := 0 } G [.ref (ad 0), .int a1] (w_X5 G ad I R WI WA GI GA LI LA LJ) (w_X5 G ad I' R' WI' WA' GI' GA' LI' LA' LJ') sz r := by
  refine ct_of (by decide) (Nat.le_of_ble_eq_true rfl) (fun p e s m below meth c ls C w hsz hl => ?_)
  have hx := C.1
  have hb := C.2.1
  have hl : lv_has ls 2 [(0, .ref (ad 0)), (1, .int a1)] := hl
  unfold f_X5_tick at h
  refine lv_iload_n hx hb dX5_tick_0 rfl (lv_at hl 1 rfl) ?_
  refine lv_iconst (v := 1) hx hb dX5_tick_1 (by decide) ?_
  refine lv_icmp_lt (tgt := 12) hx hb dX5_tick_2 (by decide) (fun c1 => ?_) (fun c1 => ?_)
  · rw [if_pos c1] at h
    refine lv_bipush (v := (-2)) hx hb dX5_tick_12 (by decide) ?_
    cases h
    exact ret_I C w rfl rfl dX5_tick_14
  · rw [if_neg c1] at h
    refine lv_iload_n hx hb dX5_tick_5 rfl (lv_at hl 1 rfl) ?_
    refine lv_sipush (v := (1000)) hx hb dX5_tick_6 (by decide) ?_
    refine lv_icmp_le (tgt := 15) hx hb dX5_tick_9 (by decide) (fun c2 => ?_) (fun c2 => ?_)
    · rw [if_pos c2] at h
      refine lv_aload_n hx hb dX5_tick_15 rfl (lv_at hl 0 rfl) ?_
      refine r_get C w 0 5 8 (.int (I 8)) ge_X5_0 rfl inX5 (by decide) tt_164 rfl dX5_tick_16 ?_
      refine lv_iload_n hx hb dX5_tick_19 rfl (lv_at hl 1 rfl) ?_
      refine lv_iadd hx hb dX5_tick_20 ?_
      refine lv_ldc hx hb C.2.2.2.2.1 (C.ts tt_188) dX5_tick_21 ?_
      refine lv_icmp_le (tgt := 29) hx hb dX5_tick_23 (by decide) (fun c3 => ?_) (fun c3 => ?_)
      · rw [if_pos c3] at h
        refine lv_aload_n hx hb dX5_tick_29 rfl (lv_at hl 0 rfl) ?_
        refine lv_dup hx hb dX5_tick_30 rfl ?_
        refine r_get C w 0 5 8 (.int (I 8)) ge_X5_0 rfl inX5 (by decide) tt_164 rfl dX5_tick_31 ?_
        refine lv_iload_n hx hb dX5_tick_34 rfl (lv_at hl 1 rfl) ?_
        refine lv_iadd hx hb dX5_tick_35 ?_
        refine r_put C w 0 5 8 (w_X5 G ad (upd I 8 ((I 8) + a1)) R WI WA GI GA LI LA LJ) tyX5_ok nmX5 ge_X5_0 rfl inX5 (by decide) tt_164 rfl rfl rfl (Nat.le_of_ble_eq_true rfl) st_X5_0_8 dX5_tick_36 (fun H locs w => ?_)
        refine lv_aload_n hx hb dX5_tick_39 rfl (lv_at hl 0 rfl) ?_
        refine r_get C w 0 5 8 (.int ((upd I 8 ((I 8) + a1)) 8)) ge_X5_0 rfl inX5 (by decide) tt_164 rfl dX5_tick_40 ?_
        cases h
        exact ret_I C w rfl rfl dX5_tick_43
      · rw [if_neg c3] at h
        refine lv_bipush (v := (-3)) hx hb dX5_tick_26 (by decide) ?_
        cases h
        exact ret_I C w rfl rfl dX5_tick_28
    · rw [if_neg c2] at h
      refine lv_bipush (v := (-2)) hx hb dX5_tick_12 (by decide) ?_
      cases h
      exact ret_I C w rfl rfl dX5_tick_14
set_option maxHeartbeats 4000000 in
set_option maxRecDepth 100000 in
theorem c_X5_roles (l : Launch) (G : GG) (ad : Nat → Nat) (sz : Nat) (I : Nat → Int32) (R : Nat → Int32) (WI : Nat → Int32) (WA : Nat → Nat → Int32) (GI : Nat → Int32) (GA : Nat → Nat → Int32) (LI : Nat → Int32) (LA : Nat → Nat → Int32) (LJ : Nat → Nat → Int64) (a1 : Int32) (a2 : Int32) (r : Int32) (I' : Nat → Int32) (R' : Nat → Int32) (WI' : Nat → Int32) (WA' : Nat → Nat → Int32) (GI' : Nat → Int32) (GA' : Nat → Nat → Int32) (LI' : Nat → Int32) (LA' : Nat → Nat → Int32) (LJ' : Nat → Nat → Int64) (h : f_X5_roles I R WI WA GI GA LI LA LJ a1 a2 = some (r, I', R', WI', WA', GI', GA', LI', LA', LJ')) : CtI l yX5_roles cX5_roles 4 (some .int) { frames := 2, cells := 0, slots := 0, locals := 41 } G [.ref (ad 0), .int a1, .int a2] (w_X5 G ad I R WI WA GI GA LI LA LJ) (w_X5 G ad I' R' WI' WA' GI' GA' LI' LA' LJ') sz r := by
  refine ct_of (by decide) (Nat.le_of_ble_eq_true rfl) (fun p e s m below meth c ls C w hsz hl => ?_)
  have hx := C.1
  have hb := C.2.1
  have hl : lv_has ls 4 [(0, .ref (ad 0)), (1, .int a1), (2, .int a2)] := hl
  unfold f_X5_roles at h
  refine lv_iload_n hx hb dX5_roles_0 rfl (lv_at hl 1 rfl) ?_
  obtain ⟨x4, hx4, h⟩ := bdS h
  have w0 : WD G _ ([] ++ ([] ++ (w_X5 G ad I R WI WA GI GA LI LA LJ))) s _ _ := w
  refine cl_i (wc' := []) w0 (run_S (As := [.int a1]) (rest := []) C w0 (c_X5_isUser l G  _ a1 x4 hx4) mt_X5_isUser tt_193 rfl rfl ⟨Nat.le_of_ble_eq_true rfl, Nat.le_of_ble_eq_true rfl⟩ hl.1 (Nat.le_of_ble_eq_true rfl) dX5_roles_1 ⟨Nat.le_of_ble_eq_true rfl, Nat.le_of_ble_eq_true rfl⟩) (fun H locs w => ?_)
  have w : WD G _ (w_X5 G ad I R WI WA GI GA LI LA LJ) s H locs := w
  refine lv_if_eq (tgt := 18) hx hb dX5_roles_4 (by decide) (fun c5 => ?_) (fun c5 => ?_)
  · rw [if_pos c5] at h
    refine lv_bipush (v := (-2)) hx hb dX5_roles_18 (by decide) ?_
    cases h
    exact ret_I C w rfl rfl dX5_roles_20
  · rw [if_neg c5] at h
    refine lv_iload_n hx hb dX5_roles_7 rfl (lv_at hl 2 rfl) ?_
    refine lv_if_lt (tgt := 18) hx hb dX5_roles_8 (by decide) (fun c6 => ?_) (fun c6 => ?_)
    · rw [if_pos c6] at h
      refine lv_bipush (v := (-2)) hx hb dX5_roles_18 (by decide) ?_
      cases h
      exact ret_I C w rfl rfl dX5_roles_20
    · rw [if_neg c6] at h
      refine lv_iload_n hx hb dX5_roles_11 rfl (lv_at hl 2 rfl) ?_
      refine lv_sipush (v := (256)) hx hb dX5_roles_12 (by decide) ?_
      refine lv_icmp_lt (tgt := 21) hx hb dX5_roles_15 (by decide) (fun c7 => ?_) (fun c7 => ?_)
      · rw [if_pos c7] at h
        refine lv_aload_n hx hb dX5_roles_21 rfl (lv_at hl 0 rfl) ?_
        refine r_get C w 0 5 0 (.ref (ad 1)) ge_X5_0 rfl inX5 (by decide) tt_156 rfl dX5_roles_22 ?_
        refine lv_iload_n hx hb dX5_roles_25 rfl (lv_at hl 1 rfl) ?_
        obtain ⟨hin8, h⟩ := gdS h
        refine r_iald C w 1 (R a1.toNatClampNeg) ge_X5_1 rfl hin8 dX5_roles_26 ?_
        refine lv_istore_n (lv' := [(3, .int (R a1.toNatClampNeg)), (0, .ref (ad 0)), (1, .int a1), (2, .int a2)]) hx hb dX5_roles_27 rfl hl (by decide) rfl (fun ls hl => ?_)
        refine lv_aload_n hx hb dX5_roles_28 rfl (lv_at hl 1 rfl) ?_
        refine r_get C w 0 5 0 (.ref (ad 1)) ge_X5_0 rfl inX5 (by decide) tt_156 rfl dX5_roles_29 ?_
        refine lv_iload_n hx hb dX5_roles_32 rfl (lv_at hl 2 rfl) ?_
        refine lv_iload_n hx hb dX5_roles_33 rfl (lv_at hl 3 rfl) ?_
        obtain ⟨hin9, h⟩ := gdS h
        refine r_iast C w 1 (w_X5 G ad I (upd R a1.toNatClampNeg a2) WI WA GI GA LI LA LJ) ge_X5_1 hin9 st_X5_1 dX5_roles_34 (fun H locs w => ?_)
        refine lv_iload_n hx hb dX5_roles_35 rfl (lv_at hl 0 rfl) ?_
        cases h
        exact ret_I C w rfl rfl dX5_roles_36
      · rw [if_neg c7] at h
        refine lv_bipush (v := (-2)) hx hb dX5_roles_18 (by decide) ?_
        cases h
        exact ret_I C w rfl rfl dX5_roles_20
set_option maxHeartbeats 4000000 in
set_option maxRecDepth 100000 in
theorem c_X5_firm (l : Launch) (G : GG) (ad : Nat → Nat) (sz : Nat) (I : Nat → Int32) (R : Nat → Int32) (WI : Nat → Int32) (WA : Nat → Nat → Int32) (GI : Nat → Int32) (GA : Nat → Nat → Int32) (LI : Nat → Int32) (LA : Nat → Nat → Int32) (LJ : Nat → Nat → Int64) (a1 : Int32) (r : Int32) (I' : Nat → Int32) (R' : Nat → Int32) (WI' : Nat → Int32) (WA' : Nat → Nat → Int32) (GI' : Nat → Int32) (GA' : Nat → Nat → Int32) (LI' : Nat → Int32) (LA' : Nat → Nat → Int32) (LJ' : Nat → Nat → Int64) (h : f_X5_firm I R WI WA GI GA LI LA LJ a1 = some (r, I', R', WI', WA', GI', GA', LI', LA', LJ')) : CtI l yX5_firm cX5_firm 2 (some .int) { frames := 1, cells := 0, slots := 0, locals := 21 } G [.ref (ad 0), .int a1] (w_X5 G ad I R WI WA GI GA LI LA LJ) (w_X5 G ad I' R' WI' WA' GI' GA' LI' LA' LJ') sz r := by
  refine ct_of (by decide) (Nat.le_of_ble_eq_true rfl) (fun p e s m below meth c ls C w hsz hl => ?_)
  have hx := C.1
  have hb := C.2.1
  have hl : lv_has ls 2 [(0, .ref (ad 0)), (1, .int a1)] := hl
  unfold f_X5_firm at h
  refine lv_iload_n hx hb dX5_firm_0 rfl (lv_at hl 1 rfl) ?_
  refine lv_iconst (v := (-1)) hx hb dX5_firm_1 (by decide) ?_
  refine lv_icmp_eq (tgt := 17) hx hb dX5_firm_2 (by decide) (fun c4 => ?_) (fun c4 => ?_)
  · rw [if_pos c4] at h
    refine lv_aload_n hx hb dX5_firm_17 rfl (lv_at hl 0 rfl) ?_
    refine r_get C w 0 5 1 (.ref (ad 2)) ge_X5_0 rfl inX5 (by decide) tt_157 rfl dX5_firm_18 ?_
    refine lv_iload_n hx hb dX5_firm_21 rfl (lv_at hl 1 rfl) ?_
    obtain ⟨x5, hx5, h⟩ := bdS h
    have w0 := w.cut 2 8 (wc := (w_X4 G (fun i => ad (2 + i)) WI WA)) rfl
    refine cl_i (wc' := (w_X4 G (fun i => ad (2 + i)) x5.2.1 x5.2.2)) w0 (run_VN (As := [.int a1]) (rest := []) C w0 (c_X4_addFirm l G (fun i => ad (2 + i))  _ WI WA a1 x5.1 x5.2.1 x5.2.2 hx5) mt_X4_addFirm nn_203 4 rfl rfl rfl rfl ⟨Nat.le_of_ble_eq_true rfl, Nat.le_of_ble_eq_true rfl⟩ hl.1 (Nat.le_of_ble_eq_true rfl) dX5_firm_22 ⟨Nat.le_of_ble_eq_true rfl, Nat.le_of_ble_eq_true rfl⟩) (fun H locs w => ?_)
    have w : WD G _ (w_X5 G ad I R x5.2.1 x5.2.2 GI GA LI LA LJ) s H locs := w
    cases h
    exact ret_I C w rfl rfl dX5_firm_25
  · rw [if_neg c4] at h
    refine lv_iload_n hx hb dX5_firm_5 rfl (lv_at hl 1 rfl) ?_
    refine lv_bipush (v := (8)) hx hb dX5_firm_6 (by decide) ?_
    obtain ⟨x6, hx6, h⟩ := bdS h
    have w0 : WD G _ ([] ++ ([] ++ (w_X5 G ad I R WI WA GI GA LI LA LJ))) s _ _ := w
    refine cl_i (wc' := []) w0 (run_S (As := [.int a1, .int 8]) (rest := []) C w0 (c_X5_isBelow l G  _ a1 8 x6 hx6) mt_X5_isBelow tt_196 rfl rfl ⟨Nat.le_of_ble_eq_true rfl, Nat.le_of_ble_eq_true rfl⟩ hl.1 (Nat.le_of_ble_eq_true rfl) dX5_firm_8 ⟨Nat.le_of_ble_eq_true rfl, Nat.le_of_ble_eq_true rfl⟩) (fun H locs w => ?_)
    have w : WD G _ (w_X5 G ad I R WI WA GI GA LI LA LJ) s H locs := w
    refine lv_if_ne (tgt := 17) hx hb dX5_firm_11 (by decide) (fun c7 => ?_) (fun c7 => ?_)
    · rw [if_neg c7] at h
      refine lv_aload_n hx hb dX5_firm_17 rfl (lv_at hl 0 rfl) ?_
      refine r_get C w 0 5 1 (.ref (ad 2)) ge_X5_0 rfl inX5 (by decide) tt_157 rfl dX5_firm_18 ?_
      refine lv_iload_n hx hb dX5_firm_21 rfl (lv_at hl 1 rfl) ?_
      obtain ⟨x8, hx8, h⟩ := bdS h
      have w0 := w.cut 2 8 (wc := (w_X4 G (fun i => ad (2 + i)) WI WA)) rfl
      refine cl_i (wc' := (w_X4 G (fun i => ad (2 + i)) x8.2.1 x8.2.2)) w0 (run_VN (As := [.int a1]) (rest := []) C w0 (c_X4_addFirm l G (fun i => ad (2 + i))  _ WI WA a1 x8.1 x8.2.1 x8.2.2 hx8) mt_X4_addFirm nn_203 4 rfl rfl rfl rfl ⟨Nat.le_of_ble_eq_true rfl, Nat.le_of_ble_eq_true rfl⟩ hl.1 (Nat.le_of_ble_eq_true rfl) dX5_firm_22 ⟨Nat.le_of_ble_eq_true rfl, Nat.le_of_ble_eq_true rfl⟩) (fun H locs w => ?_)
      have w : WD G _ (w_X5 G ad I R x8.2.1 x8.2.2 GI GA LI LA LJ) s H locs := w
      cases h
      exact ret_I C w rfl rfl dX5_firm_25
    · rw [if_pos c7] at h
      refine lv_bipush (v := (-2)) hx hb dX5_firm_14 (by decide) ?_
      cases h
      exact ret_I C w rfl rfl dX5_firm_16
set_option maxHeartbeats 4000000 in
set_option maxRecDepth 100000 in
theorem c_X5_object (l : Launch) (G : GG) (ad : Nat → Nat) (sz : Nat) (I : Nat → Int32) (R : Nat → Int32) (WI : Nat → Int32) (WA : Nat → Nat → Int32) (GI : Nat → Int32) (GA : Nat → Nat → Int32) (LI : Nat → Int32) (LA : Nat → Nat → Int32) (LJ : Nat → Nat → Int64) (a1 : Int32) (r : Int32) (I' : Nat → Int32) (R' : Nat → Int32) (WI' : Nat → Int32) (WA' : Nat → Nat → Int32) (GI' : Nat → Int32) (GA' : Nat → Nat → Int32) (LI' : Nat → Int32) (LA' : Nat → Nat → Int32) (LJ' : Nat → Nat → Int64) (h : f_X5_object I R WI WA GI GA LI LA LJ a1 = some (r, I', R', WI', WA', GI', GA', LI', LA', LJ')) : CtI l yX5_object cX5_object 2 (some .int) { frames := 2, cells := 0, slots := 0, locals := 42 } G [.ref (ad 0), .int a1] (w_X5 G ad I R WI WA GI GA LI LA LJ) (w_X5 G ad I' R' WI' WA' GI' GA' LI' LA' LJ') sz r := by
  refine ct_of (by decide) (Nat.le_of_ble_eq_true rfl) (fun p e s m below meth c ls C w hsz hl => ?_)
  have hx := C.1
  have hb := C.2.1
  have hl : lv_has ls 2 [(0, .ref (ad 0)), (1, .int a1)] := hl
  unfold f_X5_object at h
  refine lv_aload_n hx hb dX5_object_0 rfl (lv_at hl 0 rfl) ?_
  refine r_get C w 0 5 1 (.ref (ad 2)) ge_X5_0 rfl inX5 (by decide) tt_157 rfl dX5_object_1 ?_
  refine lv_iload_n hx hb dX5_object_4 rfl (lv_at hl 1 rfl) ?_
  obtain ⟨x3, hx3, h⟩ := bdS h
  have w0 := w.cut 2 8 (wc := (w_X4 G (fun i => ad (2 + i)) WI WA)) rfl
  refine cl_i (wc' := (w_X4 G (fun i => ad (2 + i)) WI WA)) w0 (run_VN (As := [.int a1]) (rest := []) C w0 (c_X4_hasFirm l G (fun i => ad (2 + i))  _ WI WA a1 x3 hx3) mt_X4_hasFirm nn_211 4 rfl rfl rfl rfl ⟨Nat.le_of_ble_eq_true rfl, Nat.le_of_ble_eq_true rfl⟩ hl.1 (Nat.le_of_ble_eq_true rfl) dX5_object_5 ⟨Nat.le_of_ble_eq_true rfl, Nat.le_of_ble_eq_true rfl⟩) (fun H locs w => ?_)
  have w : WD G _ (w_X5 G ad I R WI WA GI GA LI LA LJ) s H locs := w
  refine lv_if_ne (tgt := 14) hx hb dX5_object_8 (by decide) (fun c4 => ?_) (fun c4 => ?_)
  · rw [if_neg c4] at h
    refine lv_aload_n hx hb dX5_object_14 rfl (lv_at hl 0 rfl) ?_
    refine r_get C w 0 5 1 (.ref (ad 2)) ge_X5_0 rfl inX5 (by decide) tt_157 rfl dX5_object_15 ?_
    refine lv_iload_n hx hb dX5_object_18 rfl (lv_at hl 1 rfl) ?_
    obtain ⟨x5, hx5, h⟩ := bdS h
    have w0 := w.cut 2 8 (wc := (w_X4 G (fun i => ad (2 + i)) WI WA)) rfl
    refine cl_i (wc' := (w_X4 G (fun i => ad (2 + i)) x5.2.1 x5.2.2)) w0 (run_VN (As := [.int a1]) (rest := []) C w0 (c_X4_addObject l G (fun i => ad (2 + i))  _ WI WA a1 x5.1 x5.2.1 x5.2.2 hx5) mt_X4_addObject nn_216 4 rfl rfl rfl rfl ⟨Nat.le_of_ble_eq_true rfl, Nat.le_of_ble_eq_true rfl⟩ hl.1 (Nat.le_of_ble_eq_true rfl) dX5_object_19 ⟨Nat.le_of_ble_eq_true rfl, Nat.le_of_ble_eq_true rfl⟩) (fun H locs w => ?_)
    have w : WD G _ (w_X5 G ad I R x5.2.1 x5.2.2 GI GA LI LA LJ) s H locs := w
    cases h
    exact ret_I C w rfl rfl dX5_object_22
  · rw [if_pos c4] at h
    refine lv_bipush (v := (-2)) hx hb dX5_object_11 (by decide) ?_
    cases h
    exact ret_I C w rfl rfl dX5_object_13
set_option maxHeartbeats 4000000 in
set_option maxRecDepth 100000 in
theorem w_X5_reach_99 {p : Program} {l : Launch} {e : Env} {s : State} {m : MethodId} {args : Array Value} {below : List Frame} {meth : Method} {c : Code} {FA : Nat → Prop} {G : GG} {ad : Nat → Nat} {r : Int32} {I' : Nat → Int32} {R' : Nat → Int32} {WI' : Nat → Int32} {WA' : Nat → Nat → Int32} {GI' : Nat → Int32} {GA' : Nat → Nat → Int32} {LI' : Nat → Int32} {LA' : Nat → Nat → Int32} {LJ' : Nat → Nat → Int64}  (C : CX p m meth c s args yX5_reach cX5_reach 7 (some .int)) (N : Nat) : ∀ (I : Nat → Int32) (R : Nat → Int32) (WI : Nat → Int32) (WA : Nat → Nat → Int32) (GI : Nat → Int32) (GA : Nat → Nat → Int32) (LI : Nat → Int32) (LA : Nat → Nat → Int32) (LJ : Nat → Nat → Int64) (v1 : Int32) (v2 : Int32) (v3 : Int32) (v4 : Int32) (v6 : Int32), f_X5_reach_99 N I R WI WA GI GA LI LA LJ v1 v2 v3 v4 v6 = some (r, I', R', WI', WA', GI', GA', LI', LA', LJ') → ∀ (H : Heap) (locs : List Loc), WD G FA (w_X5 G ad I R WI WA GI GA LI LA LJ) s H locs → ∀ ls : Array Slot, lv_has ls 7 [(0, .ref (ad 0)), (1, .int v1), (2, .int v2), (3, .int v3), (4, .int v4), (6, .int v6)] → W p l e { frames := 3, cells := 0, slots := 0, locals := 67 } s m args below meth c H locs 0 0 (EnI below G FA args s (w_X5 G ad I' R' WI' WA' GI' GA' LI' LA' LJ') r) (F0 m 99 ls []) := by
  have hx := C.1
  have hb := C.2.1
  intro I R WI WA GI GA LI LA LJ v1 v2 v3 v4 v6 h H locs w ls hl
  unfold f_X5_reach_99 at h
  refine lv_aload_n hx hb dX5_reach_99 rfl (lv_at hl 0 rfl) ?_
  refine r_get C w 0 5 5 (.ref (ad 13)) ge_X5_0 rfl inX5 (by decide) tt_161 rfl dX5_reach_100 ?_
  obtain ⟨x16, hx16, h⟩ := bdS h
  have w0 := w.cut 13 16 (wc := (w_X3 G (fun i => ad (13 + i)) LI LA LJ)) rfl
  refine cl_i (wc' := (w_X3 G (fun i => ad (13 + i)) LI LA LJ)) w0 (run_VN (As := []) (rest := []) C w0 (c_X3_isFull l G (fun i => ad (13 + i))  _ LI LA LJ x16 hx16) mt_X3_isFull nn_255 3 rfl rfl rfl rfl ⟨Nat.le_of_ble_eq_true rfl, Nat.le_of_ble_eq_true rfl⟩ hl.1 (Nat.le_of_ble_eq_true rfl) dX5_reach_103 ⟨Nat.le_of_ble_eq_true rfl, Nat.le_of_ble_eq_true rfl⟩) (fun H locs w => ?_)
  have w : WD G _ (w_X5 G ad I R WI WA GI GA LI LA LJ) s H locs := w
  refine lv_if_eq (tgt := 112) hx hb dX5_reach_106 (by decide) (fun c17 => ?_) (fun c17 => ?_)
  · rw [if_pos c17] at h
    refine lv_iload hx hb dX5_reach_112 (lv_at hl 5 rfl) ?_
    refine lv_if_eq (tgt := 130) hx hb dX5_reach_114 (by decide) (fun c18 => ?_) (fun c18 => ?_)
    · rw [if_pos c18] at h
      refine lv_aload_n hx hb dX5_reach_130 rfl (lv_at hl 0 rfl) ?_
      refine r_get C w 0 5 1 (.ref (ad 2)) ge_X5_0 rfl inX5 (by decide) tt_157 rfl dX5_reach_131 ?_
      refine lv_iload_n hx hb dX5_reach_134 rfl (lv_at hl 2 rfl) ?_
      refine lv_iload hx hb dX5_reach_135 (lv_at hl 4 rfl) ?_
      obtain ⟨x19, hx19, h⟩ := bdS h
      have w0 := w.cut 2 8 (wc := (w_X4 G (fun i => ad (2 + i)) WI WA)) rfl
      refine cl_v (wc' := (w_X4 G (fun i => ad (2 + i)) x19.1 x19.2)) w0 (run_VN (As := [.int v2, .int v4]) (rest := []) C w0 (c_X4_teachFirm l G (fun i => ad (2 + i))  _ WI WA v2 v4 x19.1 x19.2 hx19) mt_X4_teachFirm nn_263 4 rfl rfl rfl rfl ⟨Nat.le_of_ble_eq_true rfl, Nat.le_of_ble_eq_true rfl⟩ hl.1 (Nat.le_of_ble_eq_true rfl) dX5_reach_137 ⟨Nat.le_of_ble_eq_true rfl, Nat.le_of_ble_eq_true rfl⟩) (fun H locs w => ?_)
      have w : WD G _ (w_X5 G ad I R x19.1 x19.2 GI GA LI LA LJ) s H locs := w
      refine lv_aload_n hx hb dX5_reach_140 rfl (lv_at hl 0 rfl) ?_
      refine r_get C w 0 5 5 (.ref (ad 13)) ge_X5_0 rfl inX5 (by decide) tt_161 rfl dX5_reach_141 ?_
      refine lv_iload_n hx hb dX5_reach_144 rfl (lv_at hl 1 rfl) ?_
      refine lv_iload_n hx hb dX5_reach_145 rfl (lv_at hl 2 rfl) ?_
      refine lv_iload_n hx hb dX5_reach_146 rfl (lv_at hl 3 rfl) ?_
      refine lv_iload hx hb dX5_reach_147 (lv_at hl 5 rfl) ?_
      obtain ⟨x20, hx20, h⟩ := bdS h
      have w0 : WD G _ ([] ++ ([] ++ (w_X5 G ad I R x19.1 x19.2 GI GA LI LA LJ))) s _ _ := w
      refine cl_i (wc' := []) w0 (run_S (As := [.int v6]) (rest := [.int v3, .int v2, .int v1, .ref (ad 13)]) C w0 (c_X5_asNumber l G  _ v6 x20 hx20) mt_X5_asNumber tt_267 rfl rfl ⟨Nat.le_of_ble_eq_true rfl, Nat.le_of_ble_eq_true rfl⟩ hl.1 (Nat.le_of_ble_eq_true rfl) dX5_reach_149 ⟨Nat.le_of_ble_eq_true rfl, Nat.le_of_ble_eq_true rfl⟩) (fun H locs w => ?_)
      have w : WD G _ (w_X5 G ad I R x19.1 x19.2 GI GA LI LA LJ) s H locs := w
      refine lv_aload_n hx hb dX5_reach_152 rfl (lv_at hl 0 rfl) ?_
      refine r_get C w 0 5 8 (.int (I 8)) ge_X5_0 rfl inX5 (by decide) tt_164 rfl dX5_reach_153 ?_
      obtain ⟨x21, hx21, h⟩ := bdS h
      have w0 := w.cut 13 16 (wc := (w_X3 G (fun i => ad (13 + i)) LI LA LJ)) rfl
      refine cl_v (wc' := (w_X3 G (fun i => ad (13 + i)) x21.1 x21.2.1 x21.2.2)) w0 (run_VN (As := [.int v1, .int v2, .int v3, .int x20, .int (I 8)]) (rest := []) C w0 (c_X3_add l G (fun i => ad (13 + i))  _ N LI LA LJ v1 v2 v3 x20 (I 8) x21.1 x21.2.1 x21.2.2 hx21) mt_X3_add nn_270 3 rfl rfl rfl rfl ⟨Nat.le_of_ble_eq_true rfl, Nat.le_of_ble_eq_true rfl⟩ hl.1 (Nat.le_of_ble_eq_true rfl) dX5_reach_156 ⟨Nat.le_of_ble_eq_true rfl, Nat.le_of_ble_eq_true rfl⟩) (fun H locs w => ?_)
      have w : WD G _ (w_X5 G ad I R x19.1 x19.2 GI GA x21.1 x21.2.1 x21.2.2) s H locs := w
      refine lv_iload hx hb dX5_reach_159 (lv_at hl 5 rfl) ?_
      obtain ⟨x22, hx22, h⟩ := bdS h
      have w0 : WD G _ ([] ++ ([] ++ (w_X5 G ad I R x19.1 x19.2 GI GA x21.1 x21.2.1 x21.2.2))) s _ _ := w
      refine cl_i (wc' := []) w0 (run_S (As := [.int v6]) (rest := []) C w0 (c_X5_asNumber l G  _ v6 x22 hx22) mt_X5_asNumber tt_267 rfl rfl ⟨Nat.le_of_ble_eq_true rfl, Nat.le_of_ble_eq_true rfl⟩ hl.1 (Nat.le_of_ble_eq_true rfl) dX5_reach_161 ⟨Nat.le_of_ble_eq_true rfl, Nat.le_of_ble_eq_true rfl⟩) (fun H locs w => ?_)
      have w : WD G _ (w_X5 G ad I R x19.1 x19.2 GI GA x21.1 x21.2.1 x21.2.2) s H locs := w
      cases h
      exact ret_I C w rfl rfl dX5_reach_164
    · rw [if_neg c18] at h
      refine lv_aload_n hx hb dX5_reach_117 rfl (lv_at hl 0 rfl) ?_
      refine r_get C w 0 5 1 (.ref (ad 2)) ge_X5_0 rfl inX5 (by decide) tt_157 rfl dX5_reach_118 ?_
      refine lv_iload_n hx hb dX5_reach_121 rfl (lv_at hl 2 rfl) ?_
      refine lv_iload hx hb dX5_reach_122 (lv_at hl 4 rfl) ?_
      obtain ⟨x23, hx23, h⟩ := bdS h
      have w0 := w.cut 2 8 (wc := (w_X4 G (fun i => ad (2 + i)) WI WA)) rfl
      refine cl_v (wc' := (w_X4 G (fun i => ad (2 + i)) x23.1 x23.2)) w0 (run_VN (As := [.int v2, .int v4]) (rest := []) C w0 (c_X4_showFirm l G (fun i => ad (2 + i))  _ WI WA v2 v4 x23.1 x23.2 hx23) mt_X4_showFirm nn_259 4 rfl rfl rfl rfl ⟨Nat.le_of_ble_eq_true rfl, Nat.le_of_ble_eq_true rfl⟩ hl.1 (Nat.le_of_ble_eq_true rfl) dX5_reach_124 ⟨Nat.le_of_ble_eq_true rfl, Nat.le_of_ble_eq_true rfl⟩) (fun H locs w => ?_)
      have w : WD G _ (w_X5 G ad I R x23.1 x23.2 GI GA LI LA LJ) s H locs := w
      refine lv_goto (tgt := 140) hx hb dX5_reach_127 (by decide) ?_
      refine lv_aload_n hx hb dX5_reach_140 rfl (lv_at hl 0 rfl) ?_
      refine r_get C w 0 5 5 (.ref (ad 13)) ge_X5_0 rfl inX5 (by decide) tt_161 rfl dX5_reach_141 ?_
      refine lv_iload_n hx hb dX5_reach_144 rfl (lv_at hl 1 rfl) ?_
      refine lv_iload_n hx hb dX5_reach_145 rfl (lv_at hl 2 rfl) ?_
      refine lv_iload_n hx hb dX5_reach_146 rfl (lv_at hl 3 rfl) ?_
      refine lv_iload hx hb dX5_reach_147 (lv_at hl 5 rfl) ?_
      obtain ⟨x24, hx24, h⟩ := bdS h
      have w0 : WD G _ ([] ++ ([] ++ (w_X5 G ad I R x23.1 x23.2 GI GA LI LA LJ))) s _ _ := w
      refine cl_i (wc' := []) w0 (run_S (As := [.int v6]) (rest := [.int v3, .int v2, .int v1, .ref (ad 13)]) C w0 (c_X5_asNumber l G  _ v6 x24 hx24) mt_X5_asNumber tt_267 rfl rfl ⟨Nat.le_of_ble_eq_true rfl, Nat.le_of_ble_eq_true rfl⟩ hl.1 (Nat.le_of_ble_eq_true rfl) dX5_reach_149 ⟨Nat.le_of_ble_eq_true rfl, Nat.le_of_ble_eq_true rfl⟩) (fun H locs w => ?_)
      have w : WD G _ (w_X5 G ad I R x23.1 x23.2 GI GA LI LA LJ) s H locs := w
      refine lv_aload_n hx hb dX5_reach_152 rfl (lv_at hl 0 rfl) ?_
      refine r_get C w 0 5 8 (.int (I 8)) ge_X5_0 rfl inX5 (by decide) tt_164 rfl dX5_reach_153 ?_
      obtain ⟨x25, hx25, h⟩ := bdS h
      have w0 := w.cut 13 16 (wc := (w_X3 G (fun i => ad (13 + i)) LI LA LJ)) rfl
      refine cl_v (wc' := (w_X3 G (fun i => ad (13 + i)) x25.1 x25.2.1 x25.2.2)) w0 (run_VN (As := [.int v1, .int v2, .int v3, .int x24, .int (I 8)]) (rest := []) C w0 (c_X3_add l G (fun i => ad (13 + i))  _ N LI LA LJ v1 v2 v3 x24 (I 8) x25.1 x25.2.1 x25.2.2 hx25) mt_X3_add nn_270 3 rfl rfl rfl rfl ⟨Nat.le_of_ble_eq_true rfl, Nat.le_of_ble_eq_true rfl⟩ hl.1 (Nat.le_of_ble_eq_true rfl) dX5_reach_156 ⟨Nat.le_of_ble_eq_true rfl, Nat.le_of_ble_eq_true rfl⟩) (fun H locs w => ?_)
      have w : WD G _ (w_X5 G ad I R x23.1 x23.2 GI GA x25.1 x25.2.1 x25.2.2) s H locs := w
      refine lv_iload hx hb dX5_reach_159 (lv_at hl 5 rfl) ?_
      obtain ⟨x26, hx26, h⟩ := bdS h
      have w0 : WD G _ ([] ++ ([] ++ (w_X5 G ad I R x23.1 x23.2 GI GA x25.1 x25.2.1 x25.2.2))) s _ _ := w
      refine cl_i (wc' := []) w0 (run_S (As := [.int v6]) (rest := []) C w0 (c_X5_asNumber l G  _ v6 x26 hx26) mt_X5_asNumber tt_267 rfl rfl ⟨Nat.le_of_ble_eq_true rfl, Nat.le_of_ble_eq_true rfl⟩ hl.1 (Nat.le_of_ble_eq_true rfl) dX5_reach_161 ⟨Nat.le_of_ble_eq_true rfl, Nat.le_of_ble_eq_true rfl⟩) (fun H locs w => ?_)
      have w : WD G _ (w_X5 G ad I R x23.1 x23.2 GI GA x25.1 x25.2.1 x25.2.2) s H locs := w
      cases h
      exact ret_I C w rfl rfl dX5_reach_164
  · rw [if_neg c17] at h
    refine lv_bipush (v := (-3)) hx hb dX5_reach_109 (by decide) ?_
    cases h
    exact ret_I C w rfl rfl dX5_reach_111
set_option maxHeartbeats 4000000 in
set_option maxRecDepth 100000 in
theorem w_X5_reach_72 {p : Program} {l : Launch} {e : Env} {s : State} {m : MethodId} {args : Array Value} {below : List Frame} {meth : Method} {c : Code} {FA : Nat → Prop} {G : GG} {ad : Nat → Nat} {r : Int32} {I' : Nat → Int32} {R' : Nat → Int32} {WI' : Nat → Int32} {WA' : Nat → Nat → Int32} {GI' : Nat → Int32} {GA' : Nat → Nat → Int32} {LI' : Nat → Int32} {LA' : Nat → Nat → Int32} {LJ' : Nat → Nat → Int64}  (C : CX p m meth c s args yX5_reach cX5_reach 7 (some .int)) (N : Nat) : ∀ (I : Nat → Int32) (R : Nat → Int32) (WI : Nat → Int32) (WA : Nat → Nat → Int32) (GI : Nat → Int32) (GA : Nat → Nat → Int32) (LI : Nat → Int32) (LA : Nat → Nat → Int32) (LJ : Nat → Nat → Int64) (v1 : Int32) (v2 : Int32) (v3 : Int32) (v4 : Int32) (v5 : Int32) (s0 : Int32), f_X5_reach_72 N I R WI WA GI GA LI LA LJ v1 v2 v3 v4 v5 s0 = some (r, I', R', WI', WA', GI', GA', LI', LA', LJ') → ∀ (H : Heap) (locs : List Loc), WD G FA (w_X5 G ad I R WI WA GI GA LI LA LJ) s H locs → ∀ ls : Array Slot, lv_has ls 7 [(0, .ref (ad 0)), (1, .int v1), (2, .int v2), (3, .int v3), (4, .int v4), (5, .int v5)] → W p l e { frames := 3, cells := 0, slots := 0, locals := 67 } s m args below meth c H locs 0 0 (EnI below G FA args s (w_X5 G ad I' R' WI' WA' GI' GA' LI' LA' LJ') r) (F0 m 72 ls [.int s0]) := by
  have hx := C.1
  have hb := C.2.1
  intro I R WI WA GI GA LI LA LJ v1 v2 v3 v4 v5 s0 h H locs w ls hl
  unfold f_X5_reach_72 at h
  refine lv_istore (lv' := [(6, .int s0), (0, .ref (ad 0)), (1, .int v1), (2, .int v2), (3, .int v3), (4, .int v4), (5, .int v5)]) hx hb dX5_reach_72 hl (by decide) rfl (fun ls hl => ?_)
  refine lv_iload hx hb dX5_reach_74 (lv_at hl 0 rfl) ?_
  refine lv_if_eq (tgt := 99) hx hb dX5_reach_76 (by decide) (fun c27 => ?_) (fun c27 => ?_)
  · rw [if_pos c27] at h
    exact w_X5_reach_99 C N I R WI WA GI GA LI LA LJ v1 v2 v3 v4 s0 h _ _ w _ (lv_sub hl [1, 2, 3, 4, 5, 0] rfl)
  · rw [if_neg c27] at h
    refine lv_aload_n hx hb dX5_reach_79 rfl (lv_at hl 1 rfl) ?_
    refine r_get C w 0 5 2 (.ref (ad 8)) ge_X5_0 rfl inX5 (by decide) tt_158 rfl dX5_reach_80 ?_
    refine lv_iload_n hx hb dX5_reach_83 rfl (lv_at hl 3 rfl) ?_
    refine lv_iload hx hb dX5_reach_84 (lv_at hl 5 rfl) ?_
    refine lv_aload_n hx hb dX5_reach_86 rfl (lv_at hl 1 rfl) ?_
    refine r_get C w 0 5 8 (.int (I 8)) ge_X5_0 rfl inX5 (by decide) tt_164 rfl dX5_reach_87 ?_
    obtain ⟨x28, hx28, h⟩ := bdS h
    have w0 := w.cut 8 13 (wc := (w_X1 G (fun i => ad (8 + i)) GI GA)) rfl
    refine cl_i (wc' := (w_X1 G (fun i => ad (8 + i)) GI GA)) w0 (run_VN (As := [.int v2, .int v4, .int (I 8)]) (rest := []) C w0 (c_X1_anyRuns l G (fun i => ad (8 + i))  _ N GI GA v2 v4 (I 8) x28 hx28) mt_X1_anyRuns nn_247 1 rfl rfl rfl rfl ⟨Nat.le_of_ble_eq_true rfl, Nat.le_of_ble_eq_true rfl⟩ hl.1 (Nat.le_of_ble_eq_true rfl) dX5_reach_90 ⟨Nat.le_of_ble_eq_true rfl, Nat.le_of_ble_eq_true rfl⟩) (fun H locs w => ?_)
    have w : WD G _ (w_X5 G ad I R WI WA GI GA LI LA LJ) s H locs := w
    refine lv_if_ne (tgt := 99) hx hb dX5_reach_93 (by decide) (fun c29 => ?_) (fun c29 => ?_)
    · rw [if_neg c29] at h
      exact w_X5_reach_99 C N I R WI WA GI GA LI LA LJ v1 v2 v3 v4 s0 h _ _ w _ (lv_sub hl [1, 2, 3, 4, 5, 0] rfl)
    · rw [if_pos c29] at h
      refine lv_iload hx hb dX5_reach_96 (lv_at hl 6 rfl) ?_
      cases h
      exact ret_I C w rfl rfl dX5_reach_98
set_option maxHeartbeats 4000000 in
set_option maxRecDepth 100000 in
theorem c_X5_reach (l : Launch) (G : GG) (ad : Nat → Nat) (sz : Nat) (N : Nat) (I : Nat → Int32) (R : Nat → Int32) (WI : Nat → Int32) (WA : Nat → Nat → Int32) (GI : Nat → Int32) (GA : Nat → Nat → Int32) (LI : Nat → Int32) (LA : Nat → Nat → Int32) (LJ : Nat → Nat → Int64) (a1 : Int32) (a2 : Int32) (a3 : Int32) (r : Int32) (I' : Nat → Int32) (R' : Nat → Int32) (WI' : Nat → Int32) (WA' : Nat → Nat → Int32) (GI' : Nat → Int32) (GA' : Nat → Nat → Int32) (LI' : Nat → Int32) (LA' : Nat → Nat → Int32) (LJ' : Nat → Nat → Int64) (h : f_X5_reach N I R WI WA GI GA LI LA LJ a1 a2 a3 = some (r, I', R', WI', WA', GI', GA', LI', LA', LJ')) : CtI l yX5_reach cX5_reach 7 (some .int) { frames := 3, cells := 0, slots := 0, locals := 67 } G [.ref (ad 0), .int a1, .int a2, .int a3] (w_X5 G ad I R WI WA GI GA LI LA LJ) (w_X5 G ad I' R' WI' WA' GI' GA' LI' LA' LJ') sz r := by
  refine ct_of (by decide) (Nat.le_of_ble_eq_true rfl) (fun p e s m below meth c ls C w hsz hl => ?_)
  have hx := C.1
  have hb := C.2.1
  have hl : lv_has ls 7 [(0, .ref (ad 0)), (1, .int a1), (2, .int a2), (3, .int a3)] := hl
  unfold f_X5_reach at h
  refine lv_iload_n hx hb dX5_reach_0 rfl (lv_at hl 2 rfl) ?_
  obtain ⟨x30, hx30, h⟩ := bdS h
  have w0 : WD G _ ([] ++ ([] ++ (w_X5 G ad I R WI WA GI GA LI LA LJ))) s _ _ := w
  refine cl_i (wc' := []) w0 (run_S (As := [.int a2]) (rest := []) C w0 (c_X5_isUser l G  _ a2 x30 hx30) mt_X5_isUser tt_193 rfl rfl ⟨Nat.le_of_ble_eq_true rfl, Nat.le_of_ble_eq_true rfl⟩ hl.1 (Nat.le_of_ble_eq_true rfl) dX5_reach_1 ⟨Nat.le_of_ble_eq_true rfl, Nat.le_of_ble_eq_true rfl⟩) (fun H locs w => ?_)
  have w : WD G _ (w_X5 G ad I R WI WA GI GA LI LA LJ) s H locs := w
  refine lv_if_eq (tgt := 18) hx hb dX5_reach_4 (by decide) (fun c31 => ?_) (fun c31 => ?_)
  · rw [if_pos c31] at h
    refine lv_bipush (v := (-2)) hx hb dX5_reach_18 (by decide) ?_
    cases h
    exact ret_I C w rfl rfl dX5_reach_20
  · rw [if_neg c31] at h
    refine lv_aload_n hx hb dX5_reach_7 rfl (lv_at hl 0 rfl) ?_
    refine r_get C w 0 5 1 (.ref (ad 2)) ge_X5_0 rfl inX5 (by decide) tt_157 rfl dX5_reach_8 ?_
    refine lv_iload_n hx hb dX5_reach_11 rfl (lv_at hl 3 rfl) ?_
    obtain ⟨x32, hx32, h⟩ := bdS h
    have w0 := w.cut 2 8 (wc := (w_X4 G (fun i => ad (2 + i)) WI WA)) rfl
    refine cl_i (wc' := (w_X4 G (fun i => ad (2 + i)) WI WA)) w0 (run_VN (As := [.int a3]) (rest := []) C w0 (c_X4_hasObject l G (fun i => ad (2 + i))  _ WI WA a3 x32 hx32) mt_X4_hasObject nn_228 4 rfl rfl rfl rfl ⟨Nat.le_of_ble_eq_true rfl, Nat.le_of_ble_eq_true rfl⟩ hl.1 (Nat.le_of_ble_eq_true rfl) dX5_reach_12 ⟨Nat.le_of_ble_eq_true rfl, Nat.le_of_ble_eq_true rfl⟩) (fun H locs w => ?_)
    have w : WD G _ (w_X5 G ad I R WI WA GI GA LI LA LJ) s H locs := w
    refine lv_if_ne (tgt := 21) hx hb dX5_reach_15 (by decide) (fun c33 => ?_) (fun c33 => ?_)
    · rw [if_neg c33] at h
      refine lv_aload_n hx hb dX5_reach_21 rfl (lv_at hl 0 rfl) ?_
      refine r_get C w 0 5 1 (.ref (ad 2)) ge_X5_0 rfl inX5 (by decide) tt_157 rfl dX5_reach_22 ?_
      refine r_getN C w 2 4 2 (.ref (ad 5)) ge_X5_2 rfl inX4 (by decide) nn_79 rfl dX5_reach_25 ?_
      refine lv_iload_n hx hb dX5_reach_28 rfl (lv_at hl 3 rfl) ?_
      obtain ⟨hin34, h⟩ := gdS h
      refine r_iald C w 5 (WA 2 a3.toNatClampNeg) ge_X5_5 rfl hin34 dX5_reach_29 ?_
      refine lv_istore (lv' := [(4, .int (WA 2 a3.toNatClampNeg)), (0, .ref (ad 0)), (1, .int a1), (2, .int a2), (3, .int a3)]) hx hb dX5_reach_30 hl (by decide) rfl (fun ls hl => ?_)
      refine lv_iload_n hx hb dX5_reach_32 rfl (lv_at hl 2 rfl) ?_
      refine lv_iconst (v := 2) hx hb dX5_reach_33 (by decide) ?_
      refine lv_icmp_ne (tgt := 50) hx hb dX5_reach_34 (by decide) (fun c35 => ?_) (fun c35 => ?_)
      · rw [if_neg c35] at h
        refine lv_aload_n hx hb dX5_reach_50 rfl (lv_at hl 1 rfl) ?_
        refine r_get C w 0 5 1 (.ref (ad 2)) ge_X5_0 rfl inX5 (by decide) tt_157 rfl dX5_reach_51 ?_
        refine lv_iload_n hx hb dX5_reach_54 rfl (lv_at hl 3 rfl) ?_
        refine lv_iload hx hb dX5_reach_55 (lv_at hl 0 rfl) ?_
        obtain ⟨x36, hx36, h⟩ := bdS h
        have w0 := w.cut 2 8 (wc := (w_X4 G (fun i => ad (2 + i)) WI WA)) rfl
        refine cl_i (wc' := (w_X4 G (fun i => ad (2 + i)) WI WA)) w0 (run_VN (As := [.int a2, .int (WA 2 a3.toNatClampNeg)]) (rest := []) C w0 (c_X4_onReading l G (fun i => ad (2 + i))  _ WI WA a2 (WA 2 a3.toNatClampNeg) x36 hx36) mt_X4_onReading nn_243 4 rfl rfl rfl rfl ⟨Nat.le_of_ble_eq_true rfl, Nat.le_of_ble_eq_true rfl⟩ hl.1 (Nat.le_of_ble_eq_true rfl) dX5_reach_57 ⟨Nat.le_of_ble_eq_true rfl, Nat.le_of_ble_eq_true rfl⟩) (fun H locs w => ?_)
        have w : WD G _ (w_X5 G ad I R WI WA GI GA LI LA LJ) s H locs := w
        refine lv_istore (lv' := [(5, .int x36), (4, .int (WA 2 a3.toNatClampNeg)), (0, .ref (ad 0)), (1, .int a1), (2, .int a2), (3, .int a3)]) hx hb dX5_reach_60 hl (by decide) rfl (fun ls hl => ?_)
        refine lv_iload hx hb dX5_reach_62 (lv_at hl 0 rfl) ?_
        refine lv_if_eq (tgt := 71) hx hb dX5_reach_64 (by decide) (fun c37 => ?_) (fun c37 => ?_)
        · rw [if_pos c37] at h
          refine lv_iconst (v := 0) hx hb dX5_reach_71 (by decide) ?_
          exact w_X5_reach_72 C N I R WI WA GI GA LI LA LJ a1 a2 a3 (WA 2 a3.toNatClampNeg) x36 0 h _ _ w _ (lv_sub hl [2, 3, 4, 5, 1, 0] rfl)
        · rw [if_neg c37] at h
          refine lv_iconst (v := 1) hx hb dX5_reach_67 (by decide) ?_
          refine lv_goto (tgt := 72) hx hb dX5_reach_68 (by decide) ?_
          exact w_X5_reach_72 C N I R WI WA GI GA LI LA LJ a1 a2 a3 (WA 2 a3.toNatClampNeg) x36 1 h _ _ w _ (lv_sub hl [2, 3, 4, 5, 1, 0] rfl)
      · rw [if_pos c35] at h
        refine lv_aload_n hx hb dX5_reach_37 rfl (lv_at hl 1 rfl) ?_
        refine r_get C w 0 5 1 (.ref (ad 2)) ge_X5_0 rfl inX5 (by decide) tt_157 rfl dX5_reach_38 ?_
        refine lv_iload_n hx hb dX5_reach_41 rfl (lv_at hl 3 rfl) ?_
        refine lv_iload hx hb dX5_reach_42 (lv_at hl 0 rfl) ?_
        obtain ⟨x38, hx38, h⟩ := bdS h
        have w0 := w.cut 2 8 (wc := (w_X4 G (fun i => ad (2 + i)) WI WA)) rfl
        refine cl_i (wc' := (w_X4 G (fun i => ad (2 + i)) WI WA)) w0 (run_VN (As := [.int a2, .int (WA 2 a3.toNatClampNeg)]) (rest := []) C w0 (c_X4_onWriting l G (fun i => ad (2 + i))  _ WI WA a2 (WA 2 a3.toNatClampNeg) x38 hx38) mt_X4_onWriting nn_232 4 rfl rfl rfl rfl ⟨Nat.le_of_ble_eq_true rfl, Nat.le_of_ble_eq_true rfl⟩ hl.1 (Nat.le_of_ble_eq_true rfl) dX5_reach_44 ⟨Nat.le_of_ble_eq_true rfl, Nat.le_of_ble_eq_true rfl⟩) (fun H locs w => ?_)
        have w : WD G _ (w_X5 G ad I R WI WA GI GA LI LA LJ) s H locs := w
        refine lv_goto (tgt := 60) hx hb dX5_reach_47 (by decide) ?_
        refine lv_istore (lv' := [(5, .int x38), (4, .int (WA 2 a3.toNatClampNeg)), (0, .ref (ad 0)), (1, .int a1), (2, .int a2), (3, .int a3)]) hx hb dX5_reach_60 hl (by decide) rfl (fun ls hl => ?_)
        refine lv_iload hx hb dX5_reach_62 (lv_at hl 0 rfl) ?_
        refine lv_if_eq (tgt := 71) hx hb dX5_reach_64 (by decide) (fun c39 => ?_) (fun c39 => ?_)
        · rw [if_pos c39] at h
          refine lv_iconst (v := 0) hx hb dX5_reach_71 (by decide) ?_
          exact w_X5_reach_72 C N I R WI WA GI GA LI LA LJ a1 a2 a3 (WA 2 a3.toNatClampNeg) x38 0 h _ _ w _ (lv_sub hl [2, 3, 4, 5, 1, 0] rfl)
        · rw [if_neg c39] at h
          refine lv_iconst (v := 1) hx hb dX5_reach_67 (by decide) ?_
          refine lv_goto (tgt := 72) hx hb dX5_reach_68 (by decide) ?_
          exact w_X5_reach_72 C N I R WI WA GI GA LI LA LJ a1 a2 a3 (WA 2 a3.toNatClampNeg) x38 1 h _ _ w _ (lv_sub hl [2, 3, 4, 5, 1, 0] rfl)
    · rw [if_pos c33] at h
      refine lv_bipush (v := (-2)) hx hb dX5_reach_18 (by decide) ?_
      cases h
      exact ret_I C w rfl rfl dX5_reach_20
set_option maxHeartbeats 4000000 in
set_option maxRecDepth 100000 in
theorem c_X5_read (l : Launch) (G : GG) (ad : Nat → Nat) (sz : Nat) (N : Nat) (I : Nat → Int32) (R : Nat → Int32) (WI : Nat → Int32) (WA : Nat → Nat → Int32) (GI : Nat → Int32) (GA : Nat → Nat → Int32) (LI : Nat → Int32) (LA : Nat → Nat → Int32) (LJ : Nat → Nat → Int64) (a1 : Int32) (a2 : Int32) (r : Int32) (I' : Nat → Int32) (R' : Nat → Int32) (WI' : Nat → Int32) (WA' : Nat → Nat → Int32) (GI' : Nat → Int32) (GA' : Nat → Nat → Int32) (LI' : Nat → Int32) (LA' : Nat → Nat → Int32) (LJ' : Nat → Nat → Int64) (h : f_X5_read N I R WI WA GI GA LI LA LJ a1 a2 = some (r, I', R', WI', WA', GI', GA', LI', LA', LJ')) : CtI l yX5_read cX5_read 3 (some .int) { frames := 4, cells := 0, slots := 0, locals := 93 } G [.ref (ad 0), .int a1, .int a2] (w_X5 G ad I R WI WA GI GA LI LA LJ) (w_X5 G ad I' R' WI' WA' GI' GA' LI' LA' LJ') sz r := by
  refine ct_of (by decide) (Nat.le_of_ble_eq_true rfl) (fun p e s m below meth c ls C w hsz hl => ?_)
  have hx := C.1
  have hb := C.2.1
  have hl : lv_has ls 3 [(0, .ref (ad 0)), (1, .int a1), (2, .int a2)] := hl
  unfold f_X5_read at h
  refine lv_aload_n hx hb dX5_read_0 rfl (lv_at hl 0 rfl) ?_
  refine lv_iconst (v := 1) hx hb dX5_read_1 (by decide) ?_
  refine lv_iload_n hx hb dX5_read_2 rfl (lv_at hl 1 rfl) ?_
  refine lv_iload_n hx hb dX5_read_3 rfl (lv_at hl 2 rfl) ?_
  obtain ⟨x2, hx2, h⟩ := bdS h
  have w0 := w.z
  refine cl_i (wc' := (w_X5 G ad x2.2.1 x2.2.2.1 x2.2.2.2.1 x2.2.2.2.2.1 x2.2.2.2.2.2.1 x2.2.2.2.2.2.2.1 x2.2.2.2.2.2.2.2.1 x2.2.2.2.2.2.2.2.2.1 x2.2.2.2.2.2.2.2.2.2)) w0 (run_V (As := [.int 1, .int a1, .int a2]) (rest := []) C w0 (c_X5_reach l G ad  _ N I R WI WA GI GA LI LA LJ 1 a1 a2 x2.1 x2.2.1 x2.2.2.1 x2.2.2.2.1 x2.2.2.2.2.1 x2.2.2.2.2.2.1 x2.2.2.2.2.2.2.1 x2.2.2.2.2.2.2.2.1 x2.2.2.2.2.2.2.2.2.1 x2.2.2.2.2.2.2.2.2.2 hx2) mt_X5_reach tt_224 5 rfl rfl rfl rfl ⟨Nat.le_of_ble_eq_true rfl, Nat.le_of_ble_eq_true rfl⟩ hl.1 (Nat.le_of_ble_eq_true rfl) dX5_read_4 ⟨Nat.le_of_ble_eq_true rfl, Nat.le_of_ble_eq_true rfl⟩) (fun H locs w => ?_)
  have w := w.uz
  cases h
  exact ret_I C w rfl rfl dX5_read_7
set_option maxHeartbeats 4000000 in
set_option maxRecDepth 100000 in
theorem c_X5_write (l : Launch) (G : GG) (ad : Nat → Nat) (sz : Nat) (N : Nat) (I : Nat → Int32) (R : Nat → Int32) (WI : Nat → Int32) (WA : Nat → Nat → Int32) (GI : Nat → Int32) (GA : Nat → Nat → Int32) (LI : Nat → Int32) (LA : Nat → Nat → Int32) (LJ : Nat → Nat → Int64) (a1 : Int32) (a2 : Int32) (r : Int32) (I' : Nat → Int32) (R' : Nat → Int32) (WI' : Nat → Int32) (WA' : Nat → Nat → Int32) (GI' : Nat → Int32) (GA' : Nat → Nat → Int32) (LI' : Nat → Int32) (LA' : Nat → Nat → Int32) (LJ' : Nat → Nat → Int64) (h : f_X5_write N I R WI WA GI GA LI LA LJ a1 a2 = some (r, I', R', WI', WA', GI', GA', LI', LA', LJ')) : CtI l yX5_write cX5_write 3 (some .int) { frames := 4, cells := 0, slots := 0, locals := 93 } G [.ref (ad 0), .int a1, .int a2] (w_X5 G ad I R WI WA GI GA LI LA LJ) (w_X5 G ad I' R' WI' WA' GI' GA' LI' LA' LJ') sz r := by
  refine ct_of (by decide) (Nat.le_of_ble_eq_true rfl) (fun p e s m below meth c ls C w hsz hl => ?_)
  have hx := C.1
  have hb := C.2.1
  have hl : lv_has ls 3 [(0, .ref (ad 0)), (1, .int a1), (2, .int a2)] := hl
  unfold f_X5_write at h
  refine lv_aload_n hx hb dX5_write_0 rfl (lv_at hl 0 rfl) ?_
  refine lv_iconst (v := 2) hx hb dX5_write_1 (by decide) ?_
  refine lv_iload_n hx hb dX5_write_2 rfl (lv_at hl 1 rfl) ?_
  refine lv_iload_n hx hb dX5_write_3 rfl (lv_at hl 2 rfl) ?_
  obtain ⟨x2, hx2, h⟩ := bdS h
  have w0 := w.z
  refine cl_i (wc' := (w_X5 G ad x2.2.1 x2.2.2.1 x2.2.2.2.1 x2.2.2.2.2.1 x2.2.2.2.2.2.1 x2.2.2.2.2.2.2.1 x2.2.2.2.2.2.2.2.1 x2.2.2.2.2.2.2.2.2.1 x2.2.2.2.2.2.2.2.2.2)) w0 (run_V (As := [.int 2, .int a1, .int a2]) (rest := []) C w0 (c_X5_reach l G ad  _ N I R WI WA GI GA LI LA LJ 2 a1 a2 x2.1 x2.2.1 x2.2.2.1 x2.2.2.2.1 x2.2.2.2.2.1 x2.2.2.2.2.2.1 x2.2.2.2.2.2.2.1 x2.2.2.2.2.2.2.2.1 x2.2.2.2.2.2.2.2.2.1 x2.2.2.2.2.2.2.2.2.2 hx2) mt_X5_reach tt_224 5 rfl rfl rfl rfl ⟨Nat.le_of_ble_eq_true rfl, Nat.le_of_ble_eq_true rfl⟩ hl.1 (Nat.le_of_ble_eq_true rfl) dX5_write_4 ⟨Nat.le_of_ble_eq_true rfl, Nat.le_of_ble_eq_true rfl⟩) (fun H locs w => ?_)
  have w := w.uz
  cases h
  exact ret_I C w rfl rfl dX5_write_7
set_option maxHeartbeats 4000000 in
set_option maxRecDepth 100000 in
theorem c_X5_glass (l : Launch) (G : GG) (ad : Nat → Nat) (sz : Nat) (N : Nat) (I : Nat → Int32) (R : Nat → Int32) (WI : Nat → Int32) (WA : Nat → Nat → Int32) (GI : Nat → Int32) (GA : Nat → Nat → Int32) (LI : Nat → Int32) (LA : Nat → Nat → Int32) (LJ : Nat → Nat → Int64) (a1 : Int32) (a2 : Int32) (a3 : Int32) (r : Int32) (I' : Nat → Int32) (R' : Nat → Int32) (WI' : Nat → Int32) (WA' : Nat → Nat → Int32) (GI' : Nat → Int32) (GA' : Nat → Nat → Int32) (LI' : Nat → Int32) (LA' : Nat → Nat → Int32) (LJ' : Nat → Nat → Int64) (h : f_X5_glass N I R WI WA GI GA LI LA LJ a1 a2 a3 = some (r, I', R', WI', WA', GI', GA', LI', LA', LJ')) : CtI l yX5_glass cX5_glass 5 (some .int) { frames := 2, cells := 0, slots := 0, locals := 51 } G [.ref (ad 0), .int a1, .int a2, .int a3] (w_X5 G ad I R WI WA GI GA LI LA LJ) (w_X5 G ad I' R' WI' WA' GI' GA' LI' LA' LJ') sz r := by
  refine ct_of (by decide) (Nat.le_of_ble_eq_true rfl) (fun p e s m below meth c ls C w hsz hl => ?_)
  have hx := C.1
  have hb := C.2.1
  have hl : lv_has ls 5 [(0, .ref (ad 0)), (1, .int a1), (2, .int a2), (3, .int a3)] := hl
  unfold f_X5_glass at h
  refine lv_iload_n hx hb dX5_glass_0 rfl (lv_at hl 1 rfl) ?_
  obtain ⟨x11, hx11, h⟩ := bdS h
  have w0 : WD G _ ([] ++ ([] ++ (w_X5 G ad I R WI WA GI GA LI LA LJ))) s _ _ := w
  refine cl_i (wc' := []) w0 (run_S (As := [.int a1]) (rest := []) C w0 (c_X5_isUser l G  _ a1 x11 hx11) mt_X5_isUser tt_193 rfl rfl ⟨Nat.le_of_ble_eq_true rfl, Nat.le_of_ble_eq_true rfl⟩ hl.1 (Nat.le_of_ble_eq_true rfl) dX5_glass_1 ⟨Nat.le_of_ble_eq_true rfl, Nat.le_of_ble_eq_true rfl⟩) (fun H locs w => ?_)
  have w : WD G _ (w_X5 G ad I R WI WA GI GA LI LA LJ) s H locs := w
  refine lv_if_eq (tgt := 29) hx hb dX5_glass_4 (by decide) (fun c12 => ?_) (fun c12 => ?_)
  · rw [if_pos c12] at h
    refine lv_bipush (v := (-2)) hx hb dX5_glass_29 (by decide) ?_
    cases h
    exact ret_I C w rfl rfl dX5_glass_31
  · rw [if_neg c12] at h
    refine lv_aload_n hx hb dX5_glass_7 rfl (lv_at hl 0 rfl) ?_
    refine r_get C w 0 5 1 (.ref (ad 2)) ge_X5_0 rfl inX5 (by decide) tt_157 rfl dX5_glass_8 ?_
    refine lv_iload_n hx hb dX5_glass_11 rfl (lv_at hl 2 rfl) ?_
    obtain ⟨x13, hx13, h⟩ := bdS h
    have w0 := w.cut 2 8 (wc := (w_X4 G (fun i => ad (2 + i)) WI WA)) rfl
    refine cl_i (wc' := (w_X4 G (fun i => ad (2 + i)) WI WA)) w0 (run_VN (As := [.int a2]) (rest := []) C w0 (c_X4_hasFirm l G (fun i => ad (2 + i))  _ WI WA a2 x13 hx13) mt_X4_hasFirm nn_211 4 rfl rfl rfl rfl ⟨Nat.le_of_ble_eq_true rfl, Nat.le_of_ble_eq_true rfl⟩ hl.1 (Nat.le_of_ble_eq_true rfl) dX5_glass_12 ⟨Nat.le_of_ble_eq_true rfl, Nat.le_of_ble_eq_true rfl⟩) (fun H locs w => ?_)
    have w : WD G _ (w_X5 G ad I R WI WA GI GA LI LA LJ) s H locs := w
    refine lv_if_eq (tgt := 29) hx hb dX5_glass_15 (by decide) (fun c14 => ?_) (fun c14 => ?_)
    · rw [if_pos c14] at h
      refine lv_bipush (v := (-2)) hx hb dX5_glass_29 (by decide) ?_
      cases h
      exact ret_I C w rfl rfl dX5_glass_31
    · rw [if_neg c14] at h
      refine lv_iload_n hx hb dX5_glass_18 rfl (lv_at hl 3 rfl) ?_
      refine lv_iconst (v := 1) hx hb dX5_glass_19 (by decide) ?_
      refine lv_icmp_lt (tgt := 29) hx hb dX5_glass_20 (by decide) (fun c15 => ?_) (fun c15 => ?_)
      · rw [if_pos c15] at h
        refine lv_bipush (v := (-2)) hx hb dX5_glass_29 (by decide) ?_
        cases h
        exact ret_I C w rfl rfl dX5_glass_31
      · rw [if_neg c15] at h
        refine lv_iload_n hx hb dX5_glass_23 rfl (lv_at hl 3 rfl) ?_
        refine lv_bipush (v := (100)) hx hb dX5_glass_24 (by decide) ?_
        refine lv_icmp_le (tgt := 32) hx hb dX5_glass_26 (by decide) (fun c16 => ?_) (fun c16 => ?_)
        · rw [if_pos c16] at h
          refine lv_aload_n hx hb dX5_glass_32 rfl (lv_at hl 0 rfl) ?_
          refine r_get C w 0 5 1 (.ref (ad 2)) ge_X5_0 rfl inX5 (by decide) tt_157 rfl dX5_glass_33 ?_
          refine lv_iload_n hx hb dX5_glass_36 rfl (lv_at hl 1 rfl) ?_
          refine lv_iload_n hx hb dX5_glass_37 rfl (lv_at hl 2 rfl) ?_
          obtain ⟨x17, hx17, h⟩ := bdS h
          have w0 := w.cut 2 8 (wc := (w_X4 G (fun i => ad (2 + i)) WI WA)) rfl
          refine cl_i (wc' := (w_X4 G (fun i => ad (2 + i)) WI WA)) w0 (run_VN (As := [.int a1, .int a2]) (rest := []) C w0 (c_X4_letRead l G (fun i => ad (2 + i))  _ WI WA a1 a2 x17 hx17) mt_X4_letRead nn_289 4 rfl rfl rfl rfl ⟨Nat.le_of_ble_eq_true rfl, Nat.le_of_ble_eq_true rfl⟩ hl.1 (Nat.le_of_ble_eq_true rfl) dX5_glass_38 ⟨Nat.le_of_ble_eq_true rfl, Nat.le_of_ble_eq_true rfl⟩) (fun H locs w => ?_)
          have w : WD G _ (w_X5 G ad I R WI WA GI GA LI LA LJ) s H locs := w
          refine lv_if_eq (tgt := 47) hx hb dX5_glass_41 (by decide) (fun c18 => ?_) (fun c18 => ?_)
          · rw [if_pos c18] at h
            refine lv_aload_n hx hb dX5_glass_47 rfl (lv_at hl 0 rfl) ?_
            refine r_get C w 0 5 2 (.ref (ad 8)) ge_X5_0 rfl inX5 (by decide) tt_158 rfl dX5_glass_48 ?_
            refine lv_iload_n hx hb dX5_glass_51 rfl (lv_at hl 1 rfl) ?_
            refine lv_iload_n hx hb dX5_glass_52 rfl (lv_at hl 2 rfl) ?_
            refine lv_aload_n hx hb dX5_glass_53 rfl (lv_at hl 0 rfl) ?_
            refine r_get C w 0 5 8 (.int (I 8)) ge_X5_0 rfl inX5 (by decide) tt_164 rfl dX5_glass_54 ?_
            obtain ⟨x19, hx19, h⟩ := bdS h
            have w0 := w.cut 8 13 (wc := (w_X1 G (fun i => ad (8 + i)) GI GA)) rfl
            refine cl_i (wc' := (w_X1 G (fun i => ad (8 + i)) GI GA)) w0 (run_VN (As := [.int a1, .int a2, .int (I 8)]) (rest := []) C w0 (c_X1_anyRuns l G (fun i => ad (8 + i))  _ N GI GA a1 a2 (I 8) x19 hx19) mt_X1_anyRuns nn_247 1 rfl rfl rfl rfl ⟨Nat.le_of_ble_eq_true rfl, Nat.le_of_ble_eq_true rfl⟩ hl.1 (Nat.le_of_ble_eq_true rfl) dX5_glass_57 ⟨Nat.le_of_ble_eq_true rfl, Nat.le_of_ble_eq_true rfl⟩) (fun H locs w => ?_)
            have w : WD G _ (w_X5 G ad I R WI WA GI GA LI LA LJ) s H locs := w
            refine lv_if_eq (tgt := 66) hx hb dX5_glass_60 (by decide) (fun c20 => ?_) (fun c20 => ?_)
            · rw [if_pos c20] at h
              refine lv_aload_n hx hb dX5_glass_66 rfl (lv_at hl 0 rfl) ?_
              refine r_get C w 0 5 2 (.ref (ad 8)) ge_X5_0 rfl inX5 (by decide) tt_158 rfl dX5_glass_67 ?_
              refine lv_iload_n hx hb dX5_glass_70 rfl (lv_at hl 1 rfl) ?_
              obtain ⟨x21, hx21, h⟩ := bdS h
              have w0 := w.cut 8 13 (wc := (w_X1 G (fun i => ad (8 + i)) GI GA)) rfl
              refine cl_i (wc' := (w_X1 G (fun i => ad (8 + i)) GI GA)) w0 (run_VN (As := [.int a1]) (rest := []) C w0 (c_X1_openDuties l G (fun i => ad (8 + i))  _ N GI GA a1 x21 hx21) mt_X1_openDuties nn_290 1 rfl rfl rfl rfl ⟨Nat.le_of_ble_eq_true rfl, Nat.le_of_ble_eq_true rfl⟩ hl.1 (Nat.le_of_ble_eq_true rfl) dX5_glass_71 ⟨Nat.le_of_ble_eq_true rfl, Nat.le_of_ble_eq_true rfl⟩) (fun H locs w => ?_)
              have w : WD G _ (w_X5 G ad I R WI WA GI GA LI LA LJ) s H locs := w
              refine lv_iconst (v := 3) hx hb dX5_glass_74 (by decide) ?_
              refine lv_icmp_ge (tgt := 93) hx hb dX5_glass_75 (by decide) (fun c22 => ?_) (fun c22 => ?_)
              · rw [if_pos c22] at h
                refine lv_bipush (v := (-15)) hx hb dX5_glass_93 (by decide) ?_
                cases h
                exact ret_I C w rfl rfl dX5_glass_95
              · rw [if_neg c22] at h
                refine lv_aload_n hx hb dX5_glass_78 rfl (lv_at hl 0 rfl) ?_
                refine r_get C w 0 5 2 (.ref (ad 8)) ge_X5_0 rfl inX5 (by decide) tt_158 rfl dX5_glass_79 ?_
                refine lv_iload_n hx hb dX5_glass_82 rfl (lv_at hl 1 rfl) ?_
                refine lv_aload_n hx hb dX5_glass_83 rfl (lv_at hl 0 rfl) ?_
                refine r_get C w 0 5 8 (.int (I 8)) ge_X5_0 rfl inX5 (by decide) tt_164 rfl dX5_glass_84 ?_
                obtain ⟨x23, hx23, h⟩ := bdS h
                have w0 := w.cut 8 13 (wc := (w_X1 G (fun i => ad (8 + i)) GI GA)) rfl
                refine cl_i (wc' := (w_X1 G (fun i => ad (8 + i)) GI GA)) w0 (run_VN (As := [.int a1, .int (I 8)]) (rest := []) C w0 (c_X1_anyDue l G (fun i => ad (8 + i))  _ N GI GA a1 (I 8) x23 hx23) mt_X1_anyDue nn_294 1 rfl rfl rfl rfl ⟨Nat.le_of_ble_eq_true rfl, Nat.le_of_ble_eq_true rfl⟩ hl.1 (Nat.le_of_ble_eq_true rfl) dX5_glass_87 ⟨Nat.le_of_ble_eq_true rfl, Nat.le_of_ble_eq_true rfl⟩) (fun H locs w => ?_)
                have w : WD G _ (w_X5 G ad I R WI WA GI GA LI LA LJ) s H locs := w
                refine lv_if_eq (tgt := 96) hx hb dX5_glass_90 (by decide) (fun c24 => ?_) (fun c24 => ?_)
                · rw [if_pos c24] at h
                  refine lv_aload_n hx hb dX5_glass_96 rfl (lv_at hl 0 rfl) ?_
                  refine r_get C w 0 5 2 (.ref (ad 8)) ge_X5_0 rfl inX5 (by decide) tt_158 rfl dX5_glass_97 ?_
                  obtain ⟨x25, hx25, h⟩ := bdS h
                  have w0 := w.cut 8 13 (wc := (w_X1 G (fun i => ad (8 + i)) GI GA)) rfl
                  refine cl_i (wc' := (w_X1 G (fun i => ad (8 + i)) GI GA)) w0 (run_VN (As := []) (rest := []) C w0 (c_X1_isFull l G (fun i => ad (8 + i))  _ GI GA x25 hx25) mt_X1_isFull nn_302 1 rfl rfl rfl rfl ⟨Nat.le_of_ble_eq_true rfl, Nat.le_of_ble_eq_true rfl⟩ hl.1 (Nat.le_of_ble_eq_true rfl) dX5_glass_100 ⟨Nat.le_of_ble_eq_true rfl, Nat.le_of_ble_eq_true rfl⟩) (fun H locs w => ?_)
                  have w : WD G _ (w_X5 G ad I R WI WA GI GA LI LA LJ) s H locs := w
                  refine lv_if_ne (tgt := 116) hx hb dX5_glass_103 (by decide) (fun c26 => ?_) (fun c26 => ?_)
                  · rw [if_neg c26] at h
                    refine lv_bipush (v := (-3)) hx hb dX5_glass_116 (by decide) ?_
                    cases h
                    exact ret_I C w rfl rfl dX5_glass_118
                  · rw [if_pos c26] at h
                    refine lv_aload_n hx hb dX5_glass_106 rfl (lv_at hl 0 rfl) ?_
                    refine r_get C w 0 5 5 (.ref (ad 13)) ge_X5_0 rfl inX5 (by decide) tt_161 rfl dX5_glass_107 ?_
                    obtain ⟨x27, hx27, h⟩ := bdS h
                    have w0 := w.cut 13 16 (wc := (w_X3 G (fun i => ad (13 + i)) LI LA LJ)) rfl
                    refine cl_i (wc' := (w_X3 G (fun i => ad (13 + i)) LI LA LJ)) w0 (run_VN (As := []) (rest := []) C w0 (c_X3_isFull l G (fun i => ad (13 + i))  _ LI LA LJ x27 hx27) mt_X3_isFull nn_255 3 rfl rfl rfl rfl ⟨Nat.le_of_ble_eq_true rfl, Nat.le_of_ble_eq_true rfl⟩ hl.1 (Nat.le_of_ble_eq_true rfl) dX5_glass_110 ⟨Nat.le_of_ble_eq_true rfl, Nat.le_of_ble_eq_true rfl⟩) (fun H locs w => ?_)
                    have w : WD G _ (w_X5 G ad I R WI WA GI GA LI LA LJ) s H locs := w
                    refine lv_if_eq (tgt := 119) hx hb dX5_glass_113 (by decide) (fun c28 => ?_) (fun c28 => ?_)
                    · rw [if_pos c28] at h
                      refine lv_aload_n hx hb dX5_glass_119 rfl (lv_at hl 0 rfl) ?_
                      refine r_get C w 0 5 2 (.ref (ad 8)) ge_X5_0 rfl inX5 (by decide) tt_158 rfl dX5_glass_120 ?_
                      refine lv_iload_n hx hb dX5_glass_123 rfl (lv_at hl 1 rfl) ?_
                      refine lv_iload_n hx hb dX5_glass_124 rfl (lv_at hl 2 rfl) ?_
                      refine lv_aload_n hx hb dX5_glass_125 rfl (lv_at hl 0 rfl) ?_
                      refine r_get C w 0 5 8 (.int (I 8)) ge_X5_0 rfl inX5 (by decide) tt_164 rfl dX5_glass_126 ?_
                      refine lv_iload_n hx hb dX5_glass_129 rfl (lv_at hl 3 rfl) ?_
                      refine lv_iadd hx hb dX5_glass_130 ?_
                      obtain ⟨x29, hx29, h⟩ := bdS h
                      have w0 := w.cut 8 13 (wc := (w_X1 G (fun i => ad (8 + i)) GI GA)) rfl
                      refine cl_i (wc' := (w_X1 G (fun i => ad (8 + i)) x29.2.1 x29.2.2)) w0 (run_VN (As := [.int a1, .int a2, .int ((I 8) + a3)]) (rest := []) C w0 (c_X1_addGlass l G (fun i => ad (8 + i))  _ GI GA a1 a2 ((I 8) + a3) x29.1 x29.2.1 x29.2.2 hx29) mt_X1_addGlass nn_306 1 rfl rfl rfl rfl ⟨Nat.le_of_ble_eq_true rfl, Nat.le_of_ble_eq_true rfl⟩ hl.1 (Nat.le_of_ble_eq_true rfl) dX5_glass_131 ⟨Nat.le_of_ble_eq_true rfl, Nat.le_of_ble_eq_true rfl⟩) (fun H locs w => ?_)
                      have w : WD G _ (w_X5 G ad I R WI WA x29.2.1 x29.2.2 LI LA LJ) s H locs := w
                      refine lv_istore (lv' := [(4, .int x29.1), (0, .ref (ad 0)), (1, .int a1), (2, .int a2), (3, .int a3)]) hx hb dX5_glass_134 hl (by decide) rfl (fun ls hl => ?_)
                      refine lv_aload_n hx hb dX5_glass_136 rfl (lv_at hl 1 rfl) ?_
                      refine r_get C w 0 5 5 (.ref (ad 13)) ge_X5_0 rfl inX5 (by decide) tt_161 rfl dX5_glass_137 ?_
                      refine lv_iconst (v := 3) hx hb dX5_glass_140 (by decide) ?_
                      refine lv_iload_n hx hb dX5_glass_141 rfl (lv_at hl 2 rfl) ?_
                      refine lv_iload hx hb dX5_glass_142 (lv_at hl 0 rfl) ?_
                      refine lv_iload_n hx hb dX5_glass_144 rfl (lv_at hl 3 rfl) ?_
                      refine lv_aload_n hx hb dX5_glass_145 rfl (lv_at hl 1 rfl) ?_
                      refine r_get C w 0 5 8 (.int (I 8)) ge_X5_0 rfl inX5 (by decide) tt_164 rfl dX5_glass_146 ?_
                      obtain ⟨x30, hx30, h⟩ := bdS h
                      have w0 := w.cut 13 16 (wc := (w_X3 G (fun i => ad (13 + i)) LI LA LJ)) rfl
                      refine cl_v (wc' := (w_X3 G (fun i => ad (13 + i)) x30.1 x30.2.1 x30.2.2)) w0 (run_VN (As := [.int 3, .int a1, .int x29.1, .int a2, .int (I 8)]) (rest := []) C w0 (c_X3_add l G (fun i => ad (13 + i))  _ N LI LA LJ 3 a1 x29.1 a2 (I 8) x30.1 x30.2.1 x30.2.2 hx30) mt_X3_add nn_270 3 rfl rfl rfl rfl ⟨Nat.le_of_ble_eq_true rfl, Nat.le_of_ble_eq_true rfl⟩ hl.1 (Nat.le_of_ble_eq_true rfl) dX5_glass_149 ⟨Nat.le_of_ble_eq_true rfl, Nat.le_of_ble_eq_true rfl⟩) (fun H locs w => ?_)
                      have w : WD G _ (w_X5 G ad I R WI WA x29.2.1 x29.2.2 x30.1 x30.2.1 x30.2.2) s H locs := w
                      refine lv_iload hx hb dX5_glass_152 (lv_at hl 0 rfl) ?_
                      cases h
                      exact ret_I C w rfl rfl dX5_glass_154
                    · rw [if_neg c28] at h
                      refine lv_bipush (v := (-3)) hx hb dX5_glass_116 (by decide) ?_
                      cases h
                      exact ret_I C w rfl rfl dX5_glass_118
                · rw [if_neg c24] at h
                  refine lv_bipush (v := (-15)) hx hb dX5_glass_93 (by decide) ?_
                  cases h
                  exact ret_I C w rfl rfl dX5_glass_95
            · rw [if_neg c20] at h
              refine lv_bipush (v := (-14)) hx hb dX5_glass_63 (by decide) ?_
              cases h
              exact ret_I C w rfl rfl dX5_glass_65
          · rw [if_neg c18] at h
            refine lv_bipush (v := (-13)) hx hb dX5_glass_44 (by decide) ?_
            cases h
            exact ret_I C w rfl rfl dX5_glass_46
        · rw [if_neg c16] at h
          refine lv_bipush (v := (-2)) hx hb dX5_glass_29 (by decide) ?_
          cases h
          exact ret_I C w rfl rfl dX5_glass_31
set_option maxHeartbeats 4000000 in
set_option maxRecDepth 100000 in
theorem c_X5_takeOff (l : Launch) (G : GG) (ad : Nat → Nat) (sz : Nat) (N : Nat) (I : Nat → Int32) (R : Nat → Int32) (WI : Nat → Int32) (WA : Nat → Nat → Int32) (GI : Nat → Int32) (GA : Nat → Nat → Int32) (LI : Nat → Int32) (LA : Nat → Nat → Int32) (LJ : Nat → Nat → Int64) (a1 : Int32) (a2 : Int32) (r : Int32) (I' : Nat → Int32) (R' : Nat → Int32) (WI' : Nat → Int32) (WA' : Nat → Nat → Int32) (GI' : Nat → Int32) (GA' : Nat → Nat → Int32) (LI' : Nat → Int32) (LA' : Nat → Nat → Int32) (LJ' : Nat → Nat → Int64) (h : f_X5_takeOff N I R WI WA GI GA LI LA LJ a1 a2 = some (r, I', R', WI', WA', GI', GA', LI', LA', LJ')) : CtI l yX5_takeOff cX5_takeOff 3 (some .int) { frames := 2, cells := 0, slots := 0, locals := 51 } G [.ref (ad 0), .int a1, .int a2] (w_X5 G ad I R WI WA GI GA LI LA LJ) (w_X5 G ad I' R' WI' WA' GI' GA' LI' LA' LJ') sz r := by
  refine ct_of (by decide) (Nat.le_of_ble_eq_true rfl) (fun p e s m below meth c ls C w hsz hl => ?_)
  have hx := C.1
  have hb := C.2.1
  have hl : lv_has ls 3 [(0, .ref (ad 0)), (1, .int a1), (2, .int a2)] := hl
  unfold f_X5_takeOff at h
  refine lv_aload_n hx hb dX5_takeOff_0 rfl (lv_at hl 0 rfl) ?_
  refine r_get C w 0 5 2 (.ref (ad 8)) ge_X5_0 rfl inX5 (by decide) tt_158 rfl dX5_takeOff_1 ?_
  refine lv_iload_n hx hb dX5_takeOff_4 rfl (lv_at hl 1 rfl) ?_
  obtain ⟨x11, hx11, h⟩ := bdS h
  have w0 := w.cut 8 13 (wc := (w_X1 G (fun i => ad (8 + i)) GI GA)) rfl
  refine cl_i (wc' := (w_X1 G (fun i => ad (8 + i)) GI GA)) w0 (run_VN (As := [.int a1]) (rest := []) C w0 (c_X1_has l G (fun i => ad (8 + i))  _ GI GA a1 x11 hx11) mt_X1_has nn_314 1 rfl rfl rfl rfl ⟨Nat.le_of_ble_eq_true rfl, Nat.le_of_ble_eq_true rfl⟩ hl.1 (Nat.le_of_ble_eq_true rfl) dX5_takeOff_5 ⟨Nat.le_of_ble_eq_true rfl, Nat.le_of_ble_eq_true rfl⟩) (fun H locs w => ?_)
  have w : WD G _ (w_X5 G ad I R WI WA GI GA LI LA LJ) s H locs := w
  refine lv_if_eq (tgt := 30) hx hb dX5_takeOff_8 (by decide) (fun c12 => ?_) (fun c12 => ?_)
  · rw [if_pos c12] at h
    refine lv_bipush (v := (-2)) hx hb dX5_takeOff_30 (by decide) ?_
    cases h
    exact ret_I C w rfl rfl dX5_takeOff_32
  · rw [if_neg c12] at h
    refine lv_iload_n hx hb dX5_takeOff_11 rfl (lv_at hl 2 rfl) ?_
    obtain ⟨x13, hx13, h⟩ := bdS h
    have w0 : WD G _ ([] ++ ([] ++ (w_X5 G ad I R WI WA GI GA LI LA LJ))) s _ _ := w
    refine cl_i (wc' := []) w0 (run_S (As := [.int a2]) (rest := []) C w0 (c_X5_isUser l G  _ a2 x13 hx13) mt_X5_isUser tt_193 rfl rfl ⟨Nat.le_of_ble_eq_true rfl, Nat.le_of_ble_eq_true rfl⟩ hl.1 (Nat.le_of_ble_eq_true rfl) dX5_takeOff_12 ⟨Nat.le_of_ble_eq_true rfl, Nat.le_of_ble_eq_true rfl⟩) (fun H locs w => ?_)
    have w : WD G _ (w_X5 G ad I R WI WA GI GA LI LA LJ) s H locs := w
    refine lv_if_eq (tgt := 30) hx hb dX5_takeOff_15 (by decide) (fun c14 => ?_) (fun c14 => ?_)
    · rw [if_pos c14] at h
      refine lv_bipush (v := (-2)) hx hb dX5_takeOff_30 (by decide) ?_
      cases h
      exact ret_I C w rfl rfl dX5_takeOff_32
    · rw [if_neg c14] at h
      refine lv_aload_n hx hb dX5_takeOff_18 rfl (lv_at hl 0 rfl) ?_
      refine r_get C w 0 5 2 (.ref (ad 8)) ge_X5_0 rfl inX5 (by decide) tt_158 rfl dX5_takeOff_19 ?_
      refine r_getN C w 8 1 3 (.ref (ad 12)) ge_X5_8 rfl inX1 (by decide) nn_117 rfl dX5_takeOff_22 ?_
      refine lv_iload_n hx hb dX5_takeOff_25 rfl (lv_at hl 1 rfl) ?_
      obtain ⟨hin15, h⟩ := gdS h
      refine r_zald C w 12 (GA 3 a1.toNatClampNeg) ge_X5_12 rfl hin15 dX5_takeOff_26 ?_
      refine lv_if_ne (tgt := 33) hx hb dX5_takeOff_27 (by decide) (fun c16 => ?_) (fun c16 => ?_)
      · rw [if_neg c16] at h
        refine lv_aload_n hx hb dX5_takeOff_33 rfl (lv_at hl 0 rfl) ?_
        refine r_get C w 0 5 0 (.ref (ad 1)) ge_X5_0 rfl inX5 (by decide) tt_156 rfl dX5_takeOff_34 ?_
        refine lv_iload_n hx hb dX5_takeOff_37 rfl (lv_at hl 2 rfl) ?_
        obtain ⟨hin17, h⟩ := gdS h
        refine r_iald C w 1 (R a2.toNatClampNeg) ge_X5_1 rfl hin17 dX5_takeOff_38 ?_
        refine lv_bipush (v := (7)) hx hb dX5_takeOff_39 (by decide) ?_
        obtain ⟨x18, hx18, h⟩ := bdS h
        have w0 : WD G _ ([] ++ ([] ++ (w_X5 G ad I R WI WA GI GA LI LA LJ))) s _ _ := w
        refine cl_i (wc' := []) w0 (run_S (As := [.int (R a2.toNatClampNeg), .int 7]) (rest := []) C w0 (c_X5_hasBit l G  _ (R a2.toNatClampNeg) 7 x18 hx18) mt_X5_hasBit tt_319 rfl rfl ⟨Nat.le_of_ble_eq_true rfl, Nat.le_of_ble_eq_true rfl⟩ hl.1 (Nat.le_of_ble_eq_true rfl) dX5_takeOff_41 ⟨Nat.le_of_ble_eq_true rfl, Nat.le_of_ble_eq_true rfl⟩) (fun H locs w => ?_)
        have w : WD G _ (w_X5 G ad I R WI WA GI GA LI LA LJ) s H locs := w
        refine lv_if_ne (tgt := 50) hx hb dX5_takeOff_44 (by decide) (fun c19 => ?_) (fun c19 => ?_)
        · rw [if_neg c19] at h
          refine lv_aload_n hx hb dX5_takeOff_50 rfl (lv_at hl 0 rfl) ?_
          refine r_get C w 0 5 2 (.ref (ad 8)) ge_X5_0 rfl inX5 (by decide) tt_158 rfl dX5_takeOff_51 ?_
          refine r_getN C w 8 1 0 (.ref (ad 9)) ge_X5_8 rfl inX1 (by decide) nn_111 rfl dX5_takeOff_54 ?_
          refine lv_iload_n hx hb dX5_takeOff_57 rfl (lv_at hl 1 rfl) ?_
          obtain ⟨hin20, h⟩ := gdS h
          refine r_iald C w 9 (GA 0 a1.toNatClampNeg) ge_X5_9 rfl hin20 dX5_takeOff_58 ?_
          refine lv_iload_n hx hb dX5_takeOff_59 rfl (lv_at hl 2 rfl) ?_
          refine lv_icmp_ne (tgt := 66) hx hb dX5_takeOff_60 (by decide) (fun c21 => ?_) (fun c21 => ?_)
          · rw [if_neg c21] at h
            refine lv_aload_n hx hb dX5_takeOff_66 rfl (lv_at hl 0 rfl) ?_
            refine r_get C w 0 5 5 (.ref (ad 13)) ge_X5_0 rfl inX5 (by decide) tt_161 rfl dX5_takeOff_67 ?_
            obtain ⟨x22, hx22, h⟩ := bdS h
            have w0 := w.cut 13 16 (wc := (w_X3 G (fun i => ad (13 + i)) LI LA LJ)) rfl
            refine cl_i (wc' := (w_X3 G (fun i => ad (13 + i)) LI LA LJ)) w0 (run_VN (As := []) (rest := []) C w0 (c_X3_isFull l G (fun i => ad (13 + i))  _ LI LA LJ x22 hx22) mt_X3_isFull nn_255 3 rfl rfl rfl rfl ⟨Nat.le_of_ble_eq_true rfl, Nat.le_of_ble_eq_true rfl⟩ hl.1 (Nat.le_of_ble_eq_true rfl) dX5_takeOff_70 ⟨Nat.le_of_ble_eq_true rfl, Nat.le_of_ble_eq_true rfl⟩) (fun H locs w => ?_)
            have w : WD G _ (w_X5 G ad I R WI WA GI GA LI LA LJ) s H locs := w
            refine lv_if_eq (tgt := 79) hx hb dX5_takeOff_73 (by decide) (fun c23 => ?_) (fun c23 => ?_)
            · rw [if_pos c23] at h
              refine lv_aload_n hx hb dX5_takeOff_79 rfl (lv_at hl 0 rfl) ?_
              refine r_get C w 0 5 2 (.ref (ad 8)) ge_X5_0 rfl inX5 (by decide) tt_158 rfl dX5_takeOff_80 ?_
              refine r_getN C w 8 1 3 (.ref (ad 12)) ge_X5_8 rfl inX1 (by decide) nn_117 rfl dX5_takeOff_83 ?_
              refine lv_iload_n hx hb dX5_takeOff_86 rfl (lv_at hl 1 rfl) ?_
              refine lv_iconst (v := 0) hx hb dX5_takeOff_87 (by decide) ?_
              obtain ⟨hin24, h⟩ := gdS h
              refine r_zast C w 12 (w_X5 G ad I R WI WA GI (aS GA 3 a1.toNatClampNeg 0) LI LA LJ) ge_X5_12 (by decide) hin24 st_X5_12 dX5_takeOff_88 (fun H locs w => ?_)
              refine lv_aload_n hx hb dX5_takeOff_89 rfl (lv_at hl 0 rfl) ?_
              refine r_get C w 0 5 5 (.ref (ad 13)) ge_X5_0 rfl inX5 (by decide) tt_161 rfl dX5_takeOff_90 ?_
              refine lv_iconst (v := 4) hx hb dX5_takeOff_93 (by decide) ?_
              refine lv_iload_n hx hb dX5_takeOff_94 rfl (lv_at hl 2 rfl) ?_
              refine lv_iload_n hx hb dX5_takeOff_95 rfl (lv_at hl 1 rfl) ?_
              refine lv_iconst (v := 0) hx hb dX5_takeOff_96 (by decide) ?_
              refine lv_aload_n hx hb dX5_takeOff_97 rfl (lv_at hl 0 rfl) ?_
              refine r_get C w 0 5 8 (.int (I 8)) ge_X5_0 rfl inX5 (by decide) tt_164 rfl dX5_takeOff_98 ?_
              obtain ⟨x25, hx25, h⟩ := bdS h
              have w0 := w.cut 13 16 (wc := (w_X3 G (fun i => ad (13 + i)) LI LA LJ)) rfl
              refine cl_v (wc' := (w_X3 G (fun i => ad (13 + i)) x25.1 x25.2.1 x25.2.2)) w0 (run_VN (As := [.int 4, .int a2, .int a1, .int 0, .int (I 8)]) (rest := []) C w0 (c_X3_add l G (fun i => ad (13 + i))  _ N LI LA LJ 4 a2 a1 0 (I 8) x25.1 x25.2.1 x25.2.2 hx25) mt_X3_add nn_270 3 rfl rfl rfl rfl ⟨Nat.le_of_ble_eq_true rfl, Nat.le_of_ble_eq_true rfl⟩ hl.1 (Nat.le_of_ble_eq_true rfl) dX5_takeOff_101 ⟨Nat.le_of_ble_eq_true rfl, Nat.le_of_ble_eq_true rfl⟩) (fun H locs w => ?_)
              have w : WD G _ (w_X5 G ad I R WI WA GI (aS GA 3 a1.toNatClampNeg 0) x25.1 x25.2.1 x25.2.2) s H locs := w
              refine lv_iconst (v := 0) hx hb dX5_takeOff_104 (by decide) ?_
              refine lv_aload_n hx hb dX5_takeOff_105 rfl (lv_at hl 0 rfl) ?_
              refine r_get C w 0 5 2 (.ref (ad 8)) ge_X5_0 rfl inX5 (by decide) tt_158 rfl dX5_takeOff_106 ?_
              refine lv_iload_n hx hb dX5_takeOff_109 rfl (lv_at hl 1 rfl) ?_
              obtain ⟨x26, hx26, h⟩ := bdS h
              have w0 := w.cut 8 13 (wc := (w_X1 G (fun i => ad (8 + i)) GI (aS GA 3 a1.toNatClampNeg 0))) rfl
              refine cl_i (wc' := (w_X1 G (fun i => ad (8 + i)) GI (aS GA 3 a1.toNatClampNeg 0))) w0 (run_VN (As := [.int a1]) (rest := [.int 0]) C w0 (c_X1_due l G (fun i => ad (8 + i))  _ GI (aS GA 3 a1.toNatClampNeg 0) a1 x26 hx26) mt_X1_due nn_320 1 rfl rfl rfl rfl ⟨Nat.le_of_ble_eq_true rfl, Nat.le_of_ble_eq_true rfl⟩ hl.1 (Nat.le_of_ble_eq_true rfl) dX5_takeOff_110 ⟨Nat.le_of_ble_eq_true rfl, Nat.le_of_ble_eq_true rfl⟩) (fun H locs w => ?_)
              have w : WD G _ (w_X5 G ad I R WI WA GI (aS GA 3 a1.toNatClampNeg 0) x25.1 x25.2.1 x25.2.2) s H locs := w
              refine lv_aload_n hx hb dX5_takeOff_113 rfl (lv_at hl 0 rfl) ?_
              refine r_get C w 0 5 8 (.int (I 8)) ge_X5_0 rfl inX5 (by decide) tt_164 rfl dX5_takeOff_114 ?_
              refine lv_isub hx hb dX5_takeOff_117 ?_
              refine va_mmax hx hb (C.2.2.2.1.trans hl.1.symm) C.2.2.2.2.1 (C.ts tt_321) (C.ts tt_322) (C.ts tt_58) (C.ts tt_323) (Nat.le_of_ble_eq_true rfl) (Nat.le_of_ble_eq_true rfl) (Nat.le_of_ble_eq_true rfl) (Nat.le_of_ble_eq_true rfl) dX5_takeOff_118 ?_
              refine W.eq (g2 := F0 m 121 ls [.int (iMax 0 (x26 - (I 8)))]) rfl ?_
              cases h
              exact ret_I C w rfl rfl dX5_takeOff_121
            · rw [if_neg c23] at h
              refine lv_bipush (v := (-3)) hx hb dX5_takeOff_76 (by decide) ?_
              cases h
              exact ret_I C w rfl rfl dX5_takeOff_78
          · rw [if_pos c21] at h
            refine lv_bipush (v := (-19)) hx hb dX5_takeOff_63 (by decide) ?_
            cases h
            exact ret_I C w rfl rfl dX5_takeOff_65
        · rw [if_pos c19] at h
          refine lv_bipush (v := (-18)) hx hb dX5_takeOff_47 (by decide) ?_
          cases h
          exact ret_I C w rfl rfl dX5_takeOff_49
      · rw [if_pos c16] at h
        refine lv_bipush (v := (-2)) hx hb dX5_takeOff_30 (by decide) ?_
        cases h
        exact ret_I C w rfl rfl dX5_takeOff_32
set_option maxHeartbeats 4000000 in
set_option maxRecDepth 100000 in
theorem c_X5_told (l : Launch) (G : GG) (ad : Nat → Nat) (sz : Nat) (N : Nat) (I : Nat → Int32) (R : Nat → Int32) (WI : Nat → Int32) (WA : Nat → Nat → Int32) (GI : Nat → Int32) (GA : Nat → Nat → Int32) (LI : Nat → Int32) (LA : Nat → Nat → Int32) (LJ : Nat → Nat → Int64) (a1 : Int32) (a2 : Int32) (r : Int32) (h : f_X5_told N I R WI WA GI GA LI LA LJ a1 a2 = some r) : CtI l yX5_told cX5_told 3 (some .int) { frames := 2, cells := 0, slots := 0, locals := 41 } G [.ref (ad 0), .int a1, .int a2] (w_X5 G ad I R WI WA GI GA LI LA LJ) (w_X5 G ad I R WI WA GI GA LI LA LJ) sz r := by
  refine ct_of (by decide) (Nat.le_of_ble_eq_true rfl) (fun p e s m below meth c ls C w hsz hl => ?_)
  have hx := C.1
  have hb := C.2.1
  have hl : lv_has ls 3 [(0, .ref (ad 0)), (1, .int a1), (2, .int a2)] := hl
  unfold f_X5_told at h
  refine lv_iload_n hx hb dX5_told_0 rfl (lv_at hl 1 rfl) ?_
  obtain ⟨x6, hx6, h⟩ := bdS h
  have w0 : WD G _ ([] ++ ([] ++ (w_X5 G ad I R WI WA GI GA LI LA LJ))) s _ _ := w
  refine cl_i (wc' := []) w0 (run_S (As := [.int a1]) (rest := []) C w0 (c_X5_isUser l G  _ a1 x6 hx6) mt_X5_isUser tt_193 rfl rfl ⟨Nat.le_of_ble_eq_true rfl, Nat.le_of_ble_eq_true rfl⟩ hl.1 (Nat.le_of_ble_eq_true rfl) dX5_told_1 ⟨Nat.le_of_ble_eq_true rfl, Nat.le_of_ble_eq_true rfl⟩) (fun H locs w => ?_)
  have w : WD G _ (w_X5 G ad I R WI WA GI GA LI LA LJ) s H locs := w
  refine lv_if_ne (tgt := 10) hx hb dX5_told_4 (by decide) (fun c7 => ?_) (fun c7 => ?_)
  · rw [if_neg c7] at h
    refine lv_iload_n hx hb dX5_told_10 rfl (lv_at hl 2 rfl) ?_
    by_cases c8 : a2 = 0
    · rw [if_pos c8] at h
      refine lv_tableIn (off := 29) (tgt := 40) hx hb dX5_told_11 (by rw [c8]; decide) (by rw [c8]; decide) (by rw [c8]; rfl) (by decide) ?_
      refine lv_aload_n hx hb dX5_told_40 rfl (lv_at hl 0 rfl) ?_
      refine r_get C w 0 5 0 (.ref (ad 1)) ge_X5_0 rfl inX5 (by decide) tt_156 rfl dX5_told_41 ?_
      refine lv_iload_n hx hb dX5_told_44 rfl (lv_at hl 1 rfl) ?_
      obtain ⟨hin9, h⟩ := gdS h
      refine r_iald C w 1 (R a1.toNatClampNeg) ge_X5_1 rfl hin9 dX5_told_45 ?_
      cases h
      exact ret_I C w rfl rfl dX5_told_46
    · rw [if_neg c8] at h
      by_cases c10 : a2 = 1
      · rw [if_pos c10] at h
        refine lv_tableIn (off := 36) (tgt := 47) hx hb dX5_told_11 (by rw [c10]; decide) (by rw [c10]; decide) (by rw [c10]; rfl) (by decide) ?_
        refine lv_aload_n hx hb dX5_told_47 rfl (lv_at hl 0 rfl) ?_
        refine r_get C w 0 5 1 (.ref (ad 2)) ge_X5_0 rfl inX5 (by decide) tt_157 rfl dX5_told_48 ?_
        refine r_getN C w 2 4 3 (.ref (ad 6)) ge_X5_2 rfl inX4 (by decide) nn_81 rfl dX5_told_51 ?_
        refine lv_iload_n hx hb dX5_told_54 rfl (lv_at hl 1 rfl) ?_
        obtain ⟨hin11, h⟩ := gdS h
        refine r_iald C w 6 (WA 3 a1.toNatClampNeg) ge_X5_6 rfl hin11 dX5_told_55 ?_
        cases h
        exact ret_I C w rfl rfl dX5_told_56
      · rw [if_neg c10] at h
        by_cases c12 : a2 = 2
        · rw [if_pos c12] at h
          refine lv_tableIn (off := 46) (tgt := 57) hx hb dX5_told_11 (by rw [c12]; decide) (by rw [c12]; decide) (by rw [c12]; rfl) (by decide) ?_
          refine lv_aload_n hx hb dX5_told_57 rfl (lv_at hl 0 rfl) ?_
          refine r_get C w 0 5 1 (.ref (ad 2)) ge_X5_0 rfl inX5 (by decide) tt_157 rfl dX5_told_58 ?_
          refine r_getN C w 2 4 4 (.ref (ad 7)) ge_X5_2 rfl inX4 (by decide) nn_83 rfl dX5_told_61 ?_
          refine lv_iload_n hx hb dX5_told_64 rfl (lv_at hl 1 rfl) ?_
          obtain ⟨hin13, h⟩ := gdS h
          refine r_iald C w 7 (WA 4 a1.toNatClampNeg) ge_X5_7 rfl hin13 dX5_told_65 ?_
          cases h
          exact ret_I C w rfl rfl dX5_told_66
        · rw [if_neg c12] at h
          by_cases c14 : a2 = 3
          · rw [if_pos c14] at h
            refine lv_tableIn (off := 56) (tgt := 67) hx hb dX5_told_11 (by rw [c14]; decide) (by rw [c14]; decide) (by rw [c14]; rfl) (by decide) ?_
            refine lv_aload_n hx hb dX5_told_67 rfl (lv_at hl 0 rfl) ?_
            refine r_get C w 0 5 2 (.ref (ad 8)) ge_X5_0 rfl inX5 (by decide) tt_158 rfl dX5_told_68 ?_
            refine lv_iload_n hx hb dX5_told_71 rfl (lv_at hl 1 rfl) ?_
            obtain ⟨x15, hx15, h⟩ := bdS h
            have w0 := w.cut 8 13 (wc := (w_X1 G (fun i => ad (8 + i)) GI GA)) rfl
            refine cl_i (wc' := (w_X1 G (fun i => ad (8 + i)) GI GA)) w0 (run_VN (As := [.int a1]) (rest := []) C w0 (c_X1_openDuties l G (fun i => ad (8 + i))  _ N GI GA a1 x15 hx15) mt_X1_openDuties nn_290 1 rfl rfl rfl rfl ⟨Nat.le_of_ble_eq_true rfl, Nat.le_of_ble_eq_true rfl⟩ hl.1 (Nat.le_of_ble_eq_true rfl) dX5_told_72 ⟨Nat.le_of_ble_eq_true rfl, Nat.le_of_ble_eq_true rfl⟩) (fun H locs w => ?_)
            have w : WD G _ (w_X5 G ad I R WI WA GI GA LI LA LJ) s H locs := w
            cases h
            exact ret_I C w rfl rfl dX5_told_75
          · rw [if_neg c14] at h
            refine lv_tableOut (tgt := 76) hx hb dX5_told_11 (sw_out 3 (by decide) (fun k hk => by rcases (show k = 0 ∨ k = 1 ∨ k = 2 ∨ k = 3 by omega) with rfl | rfl | rfl | rfl <;> assumption)) (by decide) ?_
            refine lv_bipush (v := (-2)) hx hb dX5_told_76 (by decide) ?_
            cases h
            exact ret_I C w rfl rfl dX5_told_78
  · rw [if_pos c7] at h
    refine lv_bipush (v := (-2)) hx hb dX5_told_7 (by decide) ?_
    cases h
    exact ret_I C w rfl rfl dX5_told_9
set_option maxHeartbeats 4000000 in
set_option maxRecDepth 100000 in
theorem c_X5_glassTold (l : Launch) (G : GG) (ad : Nat → Nat) (sz : Nat) (I : Nat → Int32) (R : Nat → Int32) (WI : Nat → Int32) (WA : Nat → Nat → Int32) (GI : Nat → Int32) (GA : Nat → Nat → Int32) (LI : Nat → Int32) (LA : Nat → Nat → Int32) (LJ : Nat → Nat → Int64) (a1 : Int32) (a2 : Int32) (r : Int32) (h : f_X5_glassTold I R WI WA GI GA LI LA LJ a1 a2 = some r) : CtI l yX5_glassTold cX5_glassTold 3 (some .int) { frames := 2, cells := 0, slots := 0, locals := 42 } G [.ref (ad 0), .int a1, .int a2] (w_X5 G ad I R WI WA GI GA LI LA LJ) (w_X5 G ad I R WI WA GI GA LI LA LJ) sz r := by
  refine ct_of (by decide) (Nat.le_of_ble_eq_true rfl) (fun p e s m below meth c ls C w hsz hl => ?_)
  have hx := C.1
  have hb := C.2.1
  have hl : lv_has ls 3 [(0, .ref (ad 0)), (1, .int a1), (2, .int a2)] := hl
  unfold f_X5_glassTold at h
  refine lv_aload_n hx hb dX5_glassTold_0 rfl (lv_at hl 0 rfl) ?_
  refine r_get C w 0 5 2 (.ref (ad 8)) ge_X5_0 rfl inX5 (by decide) tt_158 rfl dX5_glassTold_1 ?_
  refine lv_iload_n hx hb dX5_glassTold_4 rfl (lv_at hl 1 rfl) ?_
  obtain ⟨x9, hx9, h⟩ := bdS h
  have w0 := w.cut 8 13 (wc := (w_X1 G (fun i => ad (8 + i)) GI GA)) rfl
  refine cl_i (wc' := (w_X1 G (fun i => ad (8 + i)) GI GA)) w0 (run_VN (As := [.int a1]) (rest := []) C w0 (c_X1_has l G (fun i => ad (8 + i))  _ GI GA a1 x9 hx9) mt_X1_has nn_314 1 rfl rfl rfl rfl ⟨Nat.le_of_ble_eq_true rfl, Nat.le_of_ble_eq_true rfl⟩ hl.1 (Nat.le_of_ble_eq_true rfl) dX5_glassTold_5 ⟨Nat.le_of_ble_eq_true rfl, Nat.le_of_ble_eq_true rfl⟩) (fun H locs w => ?_)
  have w : WD G _ (w_X5 G ad I R WI WA GI GA LI LA LJ) s H locs := w
  refine lv_if_ne (tgt := 14) hx hb dX5_glassTold_8 (by decide) (fun c10 => ?_) (fun c10 => ?_)
  · rw [if_neg c10] at h
    refine lv_iload_n hx hb dX5_glassTold_14 rfl (lv_at hl 2 rfl) ?_
    by_cases c11 : a2 = 0
    · rw [if_pos c11] at h
      refine lv_tableIn (off := 33) (tgt := 48) hx hb dX5_glassTold_15 (by rw [c11]; decide) (by rw [c11]; decide) (by rw [c11]; rfl) (by decide) ?_
      refine lv_aload_n hx hb dX5_glassTold_48 rfl (lv_at hl 0 rfl) ?_
      refine r_get C w 0 5 2 (.ref (ad 8)) ge_X5_0 rfl inX5 (by decide) tt_158 rfl dX5_glassTold_49 ?_
      refine r_getN C w 8 1 0 (.ref (ad 9)) ge_X5_8 rfl inX1 (by decide) nn_111 rfl dX5_glassTold_52 ?_
      refine lv_iload_n hx hb dX5_glassTold_55 rfl (lv_at hl 1 rfl) ?_
      obtain ⟨hin12, h⟩ := gdS h
      refine r_iald C w 9 (GA 0 a1.toNatClampNeg) ge_X5_9 rfl hin12 dX5_glassTold_56 ?_
      cases h
      exact ret_I C w rfl rfl dX5_glassTold_57
    · rw [if_neg c11] at h
      by_cases c13 : a2 = 1
      · rw [if_pos c13] at h
        refine lv_tableIn (off := 43) (tgt := 58) hx hb dX5_glassTold_15 (by rw [c13]; decide) (by rw [c13]; decide) (by rw [c13]; rfl) (by decide) ?_
        refine lv_aload_n hx hb dX5_glassTold_58 rfl (lv_at hl 0 rfl) ?_
        refine r_get C w 0 5 2 (.ref (ad 8)) ge_X5_0 rfl inX5 (by decide) tt_158 rfl dX5_glassTold_59 ?_
        refine r_getN C w 8 1 1 (.ref (ad 10)) ge_X5_8 rfl inX1 (by decide) nn_113 rfl dX5_glassTold_62 ?_
        refine lv_iload_n hx hb dX5_glassTold_65 rfl (lv_at hl 1 rfl) ?_
        obtain ⟨hin14, h⟩ := gdS h
        refine r_iald C w 10 (GA 1 a1.toNatClampNeg) ge_X5_10 rfl hin14 dX5_glassTold_66 ?_
        cases h
        exact ret_I C w rfl rfl dX5_glassTold_67
      · rw [if_neg c13] at h
        by_cases c15 : a2 = 2
        · rw [if_pos c15] at h
          refine lv_tableIn (off := 53) (tgt := 68) hx hb dX5_glassTold_15 (by rw [c15]; decide) (by rw [c15]; decide) (by rw [c15]; rfl) (by decide) ?_
          refine lv_aload_n hx hb dX5_glassTold_68 rfl (lv_at hl 0 rfl) ?_
          refine r_get C w 0 5 2 (.ref (ad 8)) ge_X5_0 rfl inX5 (by decide) tt_158 rfl dX5_glassTold_69 ?_
          refine r_getN C w 8 1 2 (.ref (ad 11)) ge_X5_8 rfl inX1 (by decide) nn_115 rfl dX5_glassTold_72 ?_
          refine lv_iload_n hx hb dX5_glassTold_75 rfl (lv_at hl 1 rfl) ?_
          obtain ⟨hin16, h⟩ := gdS h
          refine r_iald C w 11 (GA 2 a1.toNatClampNeg) ge_X5_11 rfl hin16 dX5_glassTold_76 ?_
          cases h
          exact ret_I C w rfl rfl dX5_glassTold_77
        · rw [if_neg c15] at h
          by_cases c17 : a2 = 3
          · rw [if_pos c17] at h
            refine lv_tableIn (off := 63) (tgt := 78) hx hb dX5_glassTold_15 (by rw [c17]; decide) (by rw [c17]; decide) (by rw [c17]; rfl) (by decide) ?_
            refine lv_aload_n hx hb dX5_glassTold_78 rfl (lv_at hl 0 rfl) ?_
            refine r_get C w 0 5 2 (.ref (ad 8)) ge_X5_0 rfl inX5 (by decide) tt_158 rfl dX5_glassTold_79 ?_
            refine lv_iload_n hx hb dX5_glassTold_82 rfl (lv_at hl 1 rfl) ?_
            refine lv_aload_n hx hb dX5_glassTold_83 rfl (lv_at hl 0 rfl) ?_
            refine r_get C w 0 5 8 (.int (I 8)) ge_X5_0 rfl inX5 (by decide) tt_164 rfl dX5_glassTold_84 ?_
            obtain ⟨x18, hx18, h⟩ := bdS h
            have w0 := w.cut 8 13 (wc := (w_X1 G (fun i => ad (8 + i)) GI GA)) rfl
            refine cl_i (wc' := (w_X1 G (fun i => ad (8 + i)) GI GA)) w0 (run_VN (As := [.int a1, .int (I 8)]) (rest := []) C w0 (c_X1_runs l G (fun i => ad (8 + i))  _ GI GA a1 (I 8) x18 hx18) mt_X1_runs nn_503 1 rfl rfl rfl rfl ⟨Nat.le_of_ble_eq_true rfl, Nat.le_of_ble_eq_true rfl⟩ hl.1 (Nat.le_of_ble_eq_true rfl) dX5_glassTold_87 ⟨Nat.le_of_ble_eq_true rfl, Nat.le_of_ble_eq_true rfl⟩) (fun H locs w => ?_)
            have w : WD G _ (w_X5 G ad I R WI WA GI GA LI LA LJ) s H locs := w
            obtain ⟨x19, hx19, h⟩ := bdS h
            have w0 : WD G _ ([] ++ ([] ++ (w_X5 G ad I R WI WA GI GA LI LA LJ))) s _ _ := w
            refine cl_i (wc' := []) w0 (run_S (As := [.int x18]) (rest := []) C w0 (c_X5_asNumber l G  _ x18 x19 hx19) mt_X5_asNumber tt_267 rfl rfl ⟨Nat.le_of_ble_eq_true rfl, Nat.le_of_ble_eq_true rfl⟩ hl.1 (Nat.le_of_ble_eq_true rfl) dX5_glassTold_90 ⟨Nat.le_of_ble_eq_true rfl, Nat.le_of_ble_eq_true rfl⟩) (fun H locs w => ?_)
            have w : WD G _ (w_X5 G ad I R WI WA GI GA LI LA LJ) s H locs := w
            cases h
            exact ret_I C w rfl rfl dX5_glassTold_93
          · rw [if_neg c17] at h
            by_cases c20 : a2 = 4
            · rw [if_pos c20] at h
              refine lv_tableIn (off := 79) (tgt := 94) hx hb dX5_glassTold_15 (by rw [c20]; decide) (by rw [c20]; decide) (by rw [c20]; rfl) (by decide) ?_
              refine lv_aload_n hx hb dX5_glassTold_94 rfl (lv_at hl 0 rfl) ?_
              refine r_get C w 0 5 2 (.ref (ad 8)) ge_X5_0 rfl inX5 (by decide) tt_158 rfl dX5_glassTold_95 ?_
              refine r_getN C w 8 1 3 (.ref (ad 12)) ge_X5_8 rfl inX1 (by decide) nn_117 rfl dX5_glassTold_98 ?_
              refine lv_iload_n hx hb dX5_glassTold_101 rfl (lv_at hl 1 rfl) ?_
              obtain ⟨hin21, h⟩ := gdS h
              refine r_zald C w 12 (GA 3 a1.toNatClampNeg) ge_X5_12 rfl hin21 dX5_glassTold_102 ?_
              obtain ⟨x22, hx22, h⟩ := bdS h
              have w0 : WD G _ ([] ++ ([] ++ (w_X5 G ad I R WI WA GI GA LI LA LJ))) s _ _ := w
              refine cl_i (wc' := []) w0 (run_S (As := [.int (GA 3 a1.toNatClampNeg)]) (rest := []) C w0 (c_X5_asNumber l G  _ (GA 3 a1.toNatClampNeg) x22 hx22) mt_X5_asNumber tt_267 rfl rfl ⟨Nat.le_of_ble_eq_true rfl, Nat.le_of_ble_eq_true rfl⟩ hl.1 (Nat.le_of_ble_eq_true rfl) dX5_glassTold_103 ⟨Nat.le_of_ble_eq_true rfl, Nat.le_of_ble_eq_true rfl⟩) (fun H locs w => ?_)
              have w : WD G _ (w_X5 G ad I R WI WA GI GA LI LA LJ) s H locs := w
              cases h
              exact ret_I C w rfl rfl dX5_glassTold_106
            · rw [if_neg c20] at h
              refine lv_tableOut (tgt := 107) hx hb dX5_glassTold_15 (sw_out 4 (by decide) (fun k hk => by rcases (show k = 0 ∨ k = 1 ∨ k = 2 ∨ k = 3 ∨ k = 4 by omega) with rfl | rfl | rfl | rfl | rfl <;> assumption)) (by decide) ?_
              refine lv_bipush (v := (-2)) hx hb dX5_glassTold_107 (by decide) ?_
              cases h
              exact ret_I C w rfl rfl dX5_glassTold_109
  · rw [if_pos c10] at h
    refine lv_bipush (v := (-2)) hx hb dX5_glassTold_11 (by decide) ?_
    cases h
    exact ret_I C w rfl rfl dX5_glassTold_13
set_option maxHeartbeats 4000000 in
set_option maxRecDepth 100000 in
theorem c_X5_entry (l : Launch) (G : GG) (ad : Nat → Nat) (sz : Nat) (I : Nat → Int32) (R : Nat → Int32) (WI : Nat → Int32) (WA : Nat → Nat → Int32) (GI : Nat → Int32) (GA : Nat → Nat → Int32) (LI : Nat → Int32) (LA : Nat → Nat → Int32) (LJ : Nat → Nat → Int64) (a1 : Int32) (a2 : Int32) (r : Int32) (h : f_X5_entry I R WI WA GI GA LI LA LJ a1 a2 = some r) : CtI l yX5_entry cX5_entry 3 (some .int) { frames := 3, cells := 0, slots := 0, locals := 64 } G [.ref (ad 0), .int a1, .int a2] (w_X5 G ad I R WI WA GI GA LI LA LJ) (w_X5 G ad I R WI WA GI GA LI LA LJ) sz r := by
  refine ct_of (by decide) (Nat.le_of_ble_eq_true rfl) (fun p e s m below meth c ls C w hsz hl => ?_)
  have hx := C.1
  have hb := C.2.1
  have hl : lv_has ls 3 [(0, .ref (ad 0)), (1, .int a1), (2, .int a2)] := hl
  unfold f_X5_entry at h
  refine lv_aload_n hx hb dX5_entry_0 rfl (lv_at hl 0 rfl) ?_
  refine r_get C w 0 5 5 (.ref (ad 13)) ge_X5_0 rfl inX5 (by decide) tt_161 rfl dX5_entry_1 ?_
  refine lv_iload_n hx hb dX5_entry_4 rfl (lv_at hl 1 rfl) ?_
  refine lv_iload_n hx hb dX5_entry_5 rfl (lv_at hl 2 rfl) ?_
  obtain ⟨x3, hx3, h⟩ := bdS h
  have w0 := w.cut 13 16 (wc := (w_X3 G (fun i => ad (13 + i)) LI LA LJ)) rfl
  refine cl_i (wc' := (w_X3 G (fun i => ad (13 + i)) LI LA LJ)) w0 (run_VN (As := [.int a1, .int a2]) (rest := []) C w0 (c_X3_hasCell l G (fun i => ad (13 + i))  _ LI LA LJ a1 a2 x3 hx3) mt_X3_hasCell nn_508 3 rfl rfl rfl rfl ⟨Nat.le_of_ble_eq_true rfl, Nat.le_of_ble_eq_true rfl⟩ hl.1 (Nat.le_of_ble_eq_true rfl) dX5_entry_6 ⟨Nat.le_of_ble_eq_true rfl, Nat.le_of_ble_eq_true rfl⟩) (fun H locs w => ?_)
  have w : WD G _ (w_X5 G ad I R WI WA GI GA LI LA LJ) s H locs := w
  refine lv_if_ne (tgt := 15) hx hb dX5_entry_9 (by decide) (fun c4 => ?_) (fun c4 => ?_)
  · rw [if_neg c4] at h
    refine lv_aload_n hx hb dX5_entry_15 rfl (lv_at hl 0 rfl) ?_
    refine r_get C w 0 5 5 (.ref (ad 13)) ge_X5_0 rfl inX5 (by decide) tt_161 rfl dX5_entry_16 ?_
    refine r_getN C w 13 3 0 (.ref (ad 14)) ge_X5_13 rfl inX3 (by decide) nn_143 rfl dX5_entry_19 ?_
    refine lv_iload_n hx hb dX5_entry_22 rfl (lv_at hl 1 rfl) ?_
    refine lv_iconst (v := 5) hx hb dX5_entry_23 (by decide) ?_
    refine lv_imul hx hb dX5_entry_24 ?_
    refine lv_iload_n hx hb dX5_entry_25 rfl (lv_at hl 2 rfl) ?_
    refine lv_iadd hx hb dX5_entry_26 ?_
    obtain ⟨hin5, h⟩ := gdS h
    refine r_iald C w 14 (LA 0 ((a1 * 5) + a2).toNatClampNeg) ge_X5_14 rfl hin5 dX5_entry_27 ?_
    cases h
    exact ret_I C w rfl rfl dX5_entry_28
  · rw [if_pos c4] at h
    refine lv_bipush (v := (-2)) hx hb dX5_entry_12 (by decide) ?_
    cases h
    exact ret_I C w rfl rfl dX5_entry_14
set_option maxHeartbeats 4000000 in
set_option maxRecDepth 100000 in
theorem c_X5_link (l : Launch) (G : GG) (ad : Nat → Nat) (sz : Nat) (I : Nat → Int32) (R : Nat → Int32) (WI : Nat → Int32) (WA : Nat → Nat → Int32) (GI : Nat → Int32) (GA : Nat → Nat → Int32) (LI : Nat → Int32) (LA : Nat → Nat → Int32) (LJ : Nat → Nat → Int64) (a1 : Int32) (r : Int64) (h : f_X5_link I R WI WA GI GA LI LA LJ a1 = some r) : CtL l yX5_link cX5_link 2 (some .long) { frames := 2, cells := 0, slots := 0, locals := 42 } G [.ref (ad 0), .int a1] (w_X5 G ad I R WI WA GI GA LI LA LJ) (w_X5 G ad I R WI WA GI GA LI LA LJ) sz r := by
  refine ct_of (by decide) (Nat.le_of_ble_eq_true rfl) (fun p e s m below meth c ls C w hsz hl => ?_)
  have hx := C.1
  have hb := C.2.1
  have hl : lv_has ls 2 [(0, .ref (ad 0)), (1, .int a1)] := hl
  unfold f_X5_link at h
  refine lv_aload_n hx hb dX5_link_0 rfl (lv_at hl 0 rfl) ?_
  refine r_get C w 0 5 5 (.ref (ad 13)) ge_X5_0 rfl inX5 (by decide) tt_161 rfl dX5_link_1 ?_
  refine lv_iload_n hx hb dX5_link_4 rfl (lv_at hl 1 rfl) ?_
  obtain ⟨x3, hx3, h⟩ := bdS h
  have w0 := w.cut 13 16 (wc := (w_X3 G (fun i => ad (13 + i)) LI LA LJ)) rfl
  refine cl_i (wc' := (w_X3 G (fun i => ad (13 + i)) LI LA LJ)) w0 (run_VN (As := [.int a1]) (rest := []) C w0 (c_X3_hasEntry l G (fun i => ad (13 + i))  _ LI LA LJ a1 x3 hx3) mt_X3_hasEntry nn_521 3 rfl rfl rfl rfl ⟨Nat.le_of_ble_eq_true rfl, Nat.le_of_ble_eq_true rfl⟩ hl.1 (Nat.le_of_ble_eq_true rfl) dX5_link_5 ⟨Nat.le_of_ble_eq_true rfl, Nat.le_of_ble_eq_true rfl⟩) (fun H locs w => ?_)
  have w : WD G _ (w_X5 G ad I R WI WA GI GA LI LA LJ) s H locs := w
  refine lv_if_ne (tgt := 13) hx hb dX5_link_8 (by decide) (fun c4 => ?_) (fun c4 => ?_)
  · rw [if_neg c4] at h
    refine lv_aload_n hx hb dX5_link_13 rfl (lv_at hl 0 rfl) ?_
    refine r_get C w 0 5 5 (.ref (ad 13)) ge_X5_0 rfl inX5 (by decide) tt_161 rfl dX5_link_14 ?_
    refine r_getN C w 13 3 1 (.ref (ad 15)) ge_X5_13 rfl inX3 (by decide) nn_145 rfl dX5_link_17 ?_
    refine lv_iload_n hx hb dX5_link_20 rfl (lv_at hl 1 rfl) ?_
    obtain ⟨hin5, h⟩ := gdS h
    refine r_lald C w 15 (LJ 1 a1.toNatClampNeg) ge_X5_15 rfl hin5 dX5_link_21 ?_
    cases h
    exact ret_L C w rfl rfl dX5_link_22
  · rw [if_pos c4] at h
    refine lv_lconst (v := 0) hx hb dX5_link_11 (by decide) ?_
    cases h
    exact ret_L C w rfl rfl dX5_link_12
set_option maxHeartbeats 4000000 in
set_option maxRecDepth 100000 in
theorem c_X5_alter (l : Launch) (G : GG) (ad : Nat → Nat) (sz : Nat) (I : Nat → Int32) (R : Nat → Int32) (WI : Nat → Int32) (WA : Nat → Nat → Int32) (GI : Nat → Int32) (GA : Nat → Nat → Int32) (LI : Nat → Int32) (LA : Nat → Nat → Int32) (LJ : Nat → Nat → Int64) (a1 : Int32) (a2 : Int32) (a3 : Int32) (r : Int32) (I' : Nat → Int32) (R' : Nat → Int32) (WI' : Nat → Int32) (WA' : Nat → Nat → Int32) (GI' : Nat → Int32) (GA' : Nat → Nat → Int32) (LI' : Nat → Int32) (LA' : Nat → Nat → Int32) (LJ' : Nat → Nat → Int64) (h : f_X5_alter I R WI WA GI GA LI LA LJ a1 a2 a3 = some (r, I', R', WI', WA', GI', GA', LI', LA', LJ')) : CtI l yX5_alter cX5_alter 5 (some .int) { frames := 3, cells := 0, slots := 0, locals := 64 } G [.ref (ad 0), .int a1, .int a2, .int a3] (w_X5 G ad I R WI WA GI GA LI LA LJ) (w_X5 G ad I' R' WI' WA' GI' GA' LI' LA' LJ') sz r := by
  refine ct_of (by decide) (Nat.le_of_ble_eq_true rfl) (fun p e s m below meth c ls C w hsz hl => ?_)
  have hx := C.1
  have hb := C.2.1
  have hl : lv_has ls 5 [(0, .ref (ad 0)), (1, .int a1), (2, .int a2), (3, .int a3)] := hl
  unfold f_X5_alter at h
  refine lv_aload_n hx hb dX5_alter_0 rfl (lv_at hl 0 rfl) ?_
  refine r_get C w 0 5 5 (.ref (ad 13)) ge_X5_0 rfl inX5 (by decide) tt_161 rfl dX5_alter_1 ?_
  refine lv_iload_n hx hb dX5_alter_4 rfl (lv_at hl 1 rfl) ?_
  refine lv_iload_n hx hb dX5_alter_5 rfl (lv_at hl 2 rfl) ?_
  obtain ⟨x4, hx4, h⟩ := bdS h
  have w0 := w.cut 13 16 (wc := (w_X3 G (fun i => ad (13 + i)) LI LA LJ)) rfl
  refine cl_i (wc' := (w_X3 G (fun i => ad (13 + i)) LI LA LJ)) w0 (run_VN (As := [.int a1, .int a2]) (rest := []) C w0 (c_X3_hasCell l G (fun i => ad (13 + i))  _ LI LA LJ a1 a2 x4 hx4) mt_X3_hasCell nn_508 3 rfl rfl rfl rfl ⟨Nat.le_of_ble_eq_true rfl, Nat.le_of_ble_eq_true rfl⟩ hl.1 (Nat.le_of_ble_eq_true rfl) dX5_alter_6 ⟨Nat.le_of_ble_eq_true rfl, Nat.le_of_ble_eq_true rfl⟩) (fun H locs w => ?_)
  have w : WD G _ (w_X5 G ad I R WI WA GI GA LI LA LJ) s H locs := w
  refine lv_if_ne (tgt := 15) hx hb dX5_alter_9 (by decide) (fun c5 => ?_) (fun c5 => ?_)
  · rw [if_neg c5] at h
    refine lv_aload_n hx hb dX5_alter_15 rfl (lv_at hl 0 rfl) ?_
    refine r_get C w 0 5 5 (.ref (ad 13)) ge_X5_0 rfl inX5 (by decide) tt_161 rfl dX5_alter_16 ?_
    refine r_getN C w 13 3 0 (.ref (ad 14)) ge_X5_13 rfl inX3 (by decide) nn_143 rfl dX5_alter_19 ?_
    refine lv_iload_n hx hb dX5_alter_22 rfl (lv_at hl 1 rfl) ?_
    refine lv_iconst (v := 5) hx hb dX5_alter_23 (by decide) ?_
    refine lv_imul hx hb dX5_alter_24 ?_
    refine lv_iload_n hx hb dX5_alter_25 rfl (lv_at hl 2 rfl) ?_
    refine lv_iadd hx hb dX5_alter_26 ?_
    obtain ⟨hin6, h⟩ := gdS h
    refine r_iald C w 14 (LA 0 ((a1 * 5) + a2).toNatClampNeg) ge_X5_14 rfl hin6 dX5_alter_27 ?_
    refine lv_istore (lv' := [(4, .int (LA 0 ((a1 * 5) + a2).toNatClampNeg)), (0, .ref (ad 0)), (1, .int a1), (2, .int a2), (3, .int a3)]) hx hb dX5_alter_28 hl (by decide) rfl (fun ls hl => ?_)
    refine lv_aload_n hx hb dX5_alter_30 rfl (lv_at hl 1 rfl) ?_
    refine r_get C w 0 5 5 (.ref (ad 13)) ge_X5_0 rfl inX5 (by decide) tt_161 rfl dX5_alter_31 ?_
    refine r_getN C w 13 3 0 (.ref (ad 14)) ge_X5_13 rfl inX3 (by decide) nn_143 rfl dX5_alter_34 ?_
    refine lv_iload_n hx hb dX5_alter_37 rfl (lv_at hl 2 rfl) ?_
    refine lv_iconst (v := 5) hx hb dX5_alter_38 (by decide) ?_
    refine lv_imul hx hb dX5_alter_39 ?_
    refine lv_iload_n hx hb dX5_alter_40 rfl (lv_at hl 3 rfl) ?_
    refine lv_iadd hx hb dX5_alter_41 ?_
    refine lv_iload_n hx hb dX5_alter_42 rfl (lv_at hl 4 rfl) ?_
    obtain ⟨hin7, h⟩ := gdS h
    refine r_iast C w 14 (w_X5 G ad I R WI WA GI GA LI (aS LA 0 ((a1 * 5) + a2).toNatClampNeg a3) LJ) ge_X5_14 hin7 st_X5_14 dX5_alter_43 (fun H locs w => ?_)
    refine lv_iload hx hb dX5_alter_44 (lv_at hl 0 rfl) ?_
    cases h
    exact ret_I C w rfl rfl dX5_alter_46
  · rw [if_pos c5] at h
    refine lv_bipush (v := (-2)) hx hb dX5_alter_12 (by decide) ?_
    cases h
    exact ret_I C w rfl rfl dX5_alter_14
set_option maxHeartbeats 4000000 in
set_option maxRecDepth 100000 in
theorem c_X5_check (l : Launch) (G : GG) (ad : Nat → Nat) (sz : Nat) (N : Nat) (I : Nat → Int32) (R : Nat → Int32) (WI : Nat → Int32) (WA : Nat → Nat → Int32) (GI : Nat → Int32) (GA : Nat → Nat → Int32) (LI : Nat → Int32) (LA : Nat → Nat → Int32) (LJ : Nat → Nat → Int64) (r : Int32) (h : f_X5_check N I R WI WA GI GA LI LA LJ = some r) : CtI l yX5_check cX5_check 1 (some .int) { frames := 2, cells := 0, slots := 0, locals := 46 } G [.ref (ad 0)] (w_X5 G ad I R WI WA GI GA LI LA LJ) (w_X5 G ad I R WI WA GI GA LI LA LJ) sz r := by
  refine ct_of (by decide) (Nat.le_of_ble_eq_true rfl) (fun p e s m below meth c ls C w hsz hl => ?_)
  have hx := C.1
  have hb := C.2.1
  have hl : lv_has ls 1 [(0, .ref (ad 0))] := hl
  unfold f_X5_check at h
  refine lv_aload_n hx hb dX5_check_0 rfl (lv_at hl 0 rfl) ?_
  refine r_get C w 0 5 5 (.ref (ad 13)) ge_X5_0 rfl inX5 (by decide) tt_161 rfl dX5_check_1 ?_
  obtain ⟨x2, hx2, h⟩ := bdS h
  have w0 := w.cut 13 16 (wc := (w_X3 G (fun i => ad (13 + i)) LI LA LJ)) rfl
  refine cl_i (wc' := (w_X3 G (fun i => ad (13 + i)) LI LA LJ)) w0 (run_VN (As := []) (rest := []) C w0 (c_X3_firstWrong l G (fun i => ad (13 + i))  _ N LI LA LJ x2 hx2) mt_X3_firstWrong nn_530 3 rfl rfl rfl rfl ⟨Nat.le_of_ble_eq_true rfl, Nat.le_of_ble_eq_true rfl⟩ hl.1 (Nat.le_of_ble_eq_true rfl) dX5_check_4 ⟨Nat.le_of_ble_eq_true rfl, Nat.le_of_ble_eq_true rfl⟩) (fun H locs w => ?_)
  have w : WD G _ (w_X5 G ad I R WI WA GI GA LI LA LJ) s H locs := w
  cases h
  exact ret_I C w rfl rfl dX5_check_7
set_option maxHeartbeats 4000000 in
set_option maxRecDepth 100000 in
theorem c_X5_count (l : Launch) (G : GG) (ad : Nat → Nat) (sz : Nat) (I : Nat → Int32) (R : Nat → Int32) (WI : Nat → Int32) (WA : Nat → Nat → Int32) (GI : Nat → Int32) (GA : Nat → Nat → Int32) (LI : Nat → Int32) (LA : Nat → Nat → Int32) (LJ : Nat → Nat → Int64) (a1 : Int32) (r : Int32) (h : f_X5_count I R WI WA GI GA LI LA LJ a1 = some r) : CtI l yX5_count cX5_count 2 (some .int) { frames := 0, cells := 0, slots := 0, locals := 0 } G [.ref (ad 0), .int a1] (w_X5 G ad I R WI WA GI GA LI LA LJ) (w_X5 G ad I R WI WA GI GA LI LA LJ) sz r := by
  refine ct_of (by decide) (Nat.le_of_ble_eq_true rfl) (fun p e s m below meth c ls C w hsz hl => ?_)
  have hx := C.1
  have hb := C.2.1
  have hl : lv_has ls 2 [(0, .ref (ad 0)), (1, .int a1)] := hl
  unfold f_X5_count at h
  refine lv_iload_n hx hb dX5_count_0 rfl (lv_at hl 1 rfl) ?_
  by_cases c1 : a1 = 0
  · rw [if_pos c1] at h
    refine lv_tableIn (off := 43) (tgt := 44) hx hb dX5_count_1 (by rw [c1]; decide) (by rw [c1]; decide) (by rw [c1]; rfl) (by decide) ?_
    refine lv_aload_n hx hb dX5_count_44 rfl (lv_at hl 0 rfl) ?_
    refine r_get C w 0 5 8 (.int (I 8)) ge_X5_0 rfl inX5 (by decide) tt_164 rfl dX5_count_45 ?_
    cases h
    exact ret_I C w rfl rfl dX5_count_48
  · rw [if_neg c1] at h
    by_cases c2 : a1 = 1
    · rw [if_pos c2] at h
      refine lv_tableIn (off := 48) (tgt := 49) hx hb dX5_count_1 (by rw [c2]; decide) (by rw [c2]; decide) (by rw [c2]; rfl) (by decide) ?_
      refine lv_aload_n hx hb dX5_count_49 rfl (lv_at hl 0 rfl) ?_
      refine r_get C w 0 5 1 (.ref (ad 2)) ge_X5_0 rfl inX5 (by decide) tt_157 rfl dX5_count_50 ?_
      refine r_getN C w 2 4 5 (.int (WI 5)) ge_X5_2 rfl inX4 (by decide) nn_85 rfl dX5_count_53 ?_
      cases h
      exact ret_I C w rfl rfl dX5_count_56
    · rw [if_neg c2] at h
      by_cases c3 : a1 = 2
      · rw [if_pos c3] at h
        refine lv_tableIn (off := 56) (tgt := 57) hx hb dX5_count_1 (by rw [c3]; decide) (by rw [c3]; decide) (by rw [c3]; rfl) (by decide) ?_
        refine lv_aload_n hx hb dX5_count_57 rfl (lv_at hl 0 rfl) ?_
        refine r_get C w 0 5 1 (.ref (ad 2)) ge_X5_0 rfl inX5 (by decide) tt_157 rfl dX5_count_58 ?_
        refine r_getN C w 2 4 6 (.int (WI 6)) ge_X5_2 rfl inX4 (by decide) nn_87 rfl dX5_count_61 ?_
        cases h
        exact ret_I C w rfl rfl dX5_count_64
      · rw [if_neg c3] at h
        by_cases c4 : a1 = 3
        · rw [if_pos c4] at h
          refine lv_tableIn (off := 64) (tgt := 65) hx hb dX5_count_1 (by rw [c4]; decide) (by rw [c4]; decide) (by rw [c4]; rfl) (by decide) ?_
          refine lv_aload_n hx hb dX5_count_65 rfl (lv_at hl 0 rfl) ?_
          refine r_get C w 0 5 2 (.ref (ad 8)) ge_X5_0 rfl inX5 (by decide) tt_158 rfl dX5_count_66 ?_
          refine r_getN C w 8 1 4 (.int (GI 4)) ge_X5_8 rfl inX1 (by decide) nn_119 rfl dX5_count_69 ?_
          cases h
          exact ret_I C w rfl rfl dX5_count_72
        · rw [if_neg c4] at h
          by_cases c5 : a1 = 4
          · rw [if_pos c5] at h
            refine lv_tableIn (off := 72) (tgt := 73) hx hb dX5_count_1 (by rw [c5]; decide) (by rw [c5]; decide) (by rw [c5]; rfl) (by decide) ?_
            refine lv_aload_n hx hb dX5_count_73 rfl (lv_at hl 0 rfl) ?_
            refine r_get C w 0 5 6 (.int (I 6)) ge_X5_0 rfl inX5 (by decide) tt_162 rfl dX5_count_74 ?_
            cases h
            exact ret_I C w rfl rfl dX5_count_77
          · rw [if_neg c5] at h
            by_cases c6 : a1 = 5
            · rw [if_pos c6] at h
              refine lv_tableIn (off := 77) (tgt := 78) hx hb dX5_count_1 (by rw [c6]; decide) (by rw [c6]; decide) (by rw [c6]; rfl) (by decide) ?_
              refine lv_aload_n hx hb dX5_count_78 rfl (lv_at hl 0 rfl) ?_
              refine r_get C w 0 5 7 (.int (I 7)) ge_X5_0 rfl inX5 (by decide) tt_163 rfl dX5_count_79 ?_
              cases h
              exact ret_I C w rfl rfl dX5_count_82
            · rw [if_neg c6] at h
              by_cases c7 : a1 = 6
              · rw [if_pos c7] at h
                refine lv_tableIn (off := 82) (tgt := 83) hx hb dX5_count_1 (by rw [c7]; decide) (by rw [c7]; decide) (by rw [c7]; rfl) (by decide) ?_
                refine lv_aload_n hx hb dX5_count_83 rfl (lv_at hl 0 rfl) ?_
                refine r_get C w 0 5 5 (.ref (ad 13)) ge_X5_0 rfl inX5 (by decide) tt_161 rfl dX5_count_84 ?_
                refine r_getN C w 13 3 2 (.int (LI 2)) ge_X5_13 rfl inX3 (by decide) nn_147 rfl dX5_count_87 ?_
                cases h
                exact ret_I C w rfl rfl dX5_count_90
              · rw [if_neg c7] at h
                refine lv_tableOut (tgt := 91) hx hb dX5_count_1 (sw_out 6 (by decide) (fun k hk => by rcases (show k = 0 ∨ k = 1 ∨ k = 2 ∨ k = 3 ∨ k = 4 ∨ k = 5 ∨ k = 6 by omega) with rfl | rfl | rfl | rfl | rfl | rfl | rfl <;> assumption)) (by decide) ?_
                refine lv_bipush (v := (-2)) hx hb dX5_count_91 (by decide) ?_
                cases h
                exact ret_I C w rfl rfl dX5_count_93
