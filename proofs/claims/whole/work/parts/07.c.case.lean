set_option maxHeartbeats 4000000 in
set_option maxRecDepth 100000 in
theorem w_X0_bitsDoneBy_4 {p : Program} {l : Launch} {e : Env} {s : State} {m : MethodId} {args : Array Value} {below : List Frame} {meth : Method} {c : Code} {FA : Nat → Prop} {G : GG} {ad : Nat → Nat} {r : Int32} {D : Nat → Int32} {KI : Nat → Int32} {KA : Nat → Nat → Int32} {RL : Nat → Int32} (C : CX p m meth c s args yX0_bitsDoneBy cX0_bitsDoneBy 4 (some .int)) (N : Nat) : ∀ n : Nat, ∀ (v1 : Int32) (v2 : Int32) (v3 : Int32), f_X0_bitsDoneBy_4 N D KI KA RL n v1 v2 v3 = some r → ∀ (H : Heap) (locs : List Loc), WD G FA (w_X0 G ad D KI KA RL) s H locs → ∀ ls : Array Slot, lv_has ls 4 [(0, .ref (ad 0)), (1, .int v1), (2, .int v2), (3, .int v3)] → W p l e { frames := 0, cells := 0, slots := 0, locals := 0 } s m args below meth c H locs 0 0 (EnI below G FA args s (w_X0 G ad D KI KA RL) r) (F0 m 4 ls []) := by
  have hx := C.1
  have hb := C.2.1
  intro n
  induction n with
  | zero =>
    intro v1 v2 v3 h
    cases h
  | succ n ih =>
    intro v1 v2 v3 h H locs w ls hl
    rw [f_X0_bitsDoneBy_4] at h
    refine lv_iload_n hx hb dX0_bitsDoneBy_4 rfl (lv_at hl 3 rfl) ?_
    refine lv_aload_n hx hb dX0_bitsDoneBy_5 rfl (lv_at hl 0 rfl) ?_
    refine r_get C w 0 0 0 (.ref (ad 2)) ge_X0_0 rfl inX0 (by decide) tt_418 rfl dX0_bitsDoneBy_6 ?_
    refine r_getN C w 2 2 4 (.int (KI 4)) ge_X0_2 rfl inX2 (by decide) nn_344 rfl dX0_bitsDoneBy_9 ?_
    refine lv_icmp_ge (tgt := 37) hx hb dX0_bitsDoneBy_12 (by decide) (fun c2 => ?_) (fun c2 => ?_)
    · rw [if_pos c2] at h
      refine lv_iload_n hx hb dX0_bitsDoneBy_37 rfl (lv_at hl 2 rfl) ?_
      cases h
      exact ret_I C w rfl rfl dX0_bitsDoneBy_38
    · rw [if_neg c2] at h
      refine lv_aload_n hx hb dX0_bitsDoneBy_15 rfl (lv_at hl 0 rfl) ?_
      refine r_get C w 0 0 1 (.ref (ad 1)) ge_X0_0 rfl inX0 (by decide) tt_420 rfl dX0_bitsDoneBy_16 ?_
      refine lv_iload_n hx hb dX0_bitsDoneBy_19 rfl (lv_at hl 3 rfl) ?_
      obtain ⟨hin3, h⟩ := gdS h
      refine r_iald C w 1 (D v3.toNatClampNeg) ge_X0_1 rfl hin3 dX0_bitsDoneBy_20 ?_
      refine lv_iload_n hx hb dX0_bitsDoneBy_21 rfl (lv_at hl 1 rfl) ?_
      refine lv_icmp_ne (tgt := 31) hx hb dX0_bitsDoneBy_22 (by decide) (fun c4 => ?_) (fun c4 => ?_)
      · rw [if_neg c4] at h
        refine lv_iinc (v := v3 + 1) (lv' := [(3, .int (v3 + 1)), (0, .ref (ad 0)), (1, .int v1), (2, .int v2)]) hx hb dX0_bitsDoneBy_31 hl (k := 3) rfl rfl (by decide) rfl (fun ls hl => ?_)
        refine lv_goto (tgt := 4) hx hb dX0_bitsDoneBy_34 (by decide) ?_
        exact ih v1 v2 (v3 + 1) h _ _ w _ (lv_sub hl [1, 2, 3, 0] rfl)
      · rw [if_pos c4] at h
        refine lv_iload_n hx hb dX0_bitsDoneBy_25 rfl (lv_at hl 2 rfl) ?_
        refine lv_iconst (v := 1) hx hb dX0_bitsDoneBy_26 (by decide) ?_
        refine lv_iload_n hx hb dX0_bitsDoneBy_27 rfl (lv_at hl 3 rfl) ?_
        refine lv_ishl hx hb dX0_bitsDoneBy_28 ?_
        refine lv_ior hx hb dX0_bitsDoneBy_29 ?_
        refine lv_istore_n (lv' := [(2, .int (v2 ||| ((1 : Int32) <<< (v3 &&& 31)))), (0, .ref (ad 0)), (1, .int v1), (3, .int v3)]) hx hb dX0_bitsDoneBy_30 rfl hl (by decide) rfl (fun ls hl => ?_)
        refine lv_iinc (v := v3 + 1) (lv' := [(3, .int (v3 + 1)), (2, .int (v2 ||| ((1 : Int32) <<< (v3 &&& 31)))), (0, .ref (ad 0)), (1, .int v1)]) hx hb dX0_bitsDoneBy_31 hl (k := 3) rfl rfl (by decide) rfl (fun ls hl => ?_)
        refine lv_goto (tgt := 4) hx hb dX0_bitsDoneBy_34 (by decide) ?_
        exact ih v1 (v2 ||| ((1 : Int32) <<< (v3 &&& 31))) (v3 + 1) h _ _ w _ (lv_sub hl [2, 3, 1, 0] rfl)
set_option maxHeartbeats 4000000 in
set_option maxRecDepth 100000 in
theorem c_X0_bitsDoneBy (l : Launch) (G : GG) (ad : Nat → Nat) (sz : Nat) (N : Nat) (D : Nat → Int32) (KI : Nat → Int32) (KA : Nat → Nat → Int32) (RL : Nat → Int32) (a1 : Int32) (r : Int32) (h : f_X0_bitsDoneBy N D KI KA RL a1 = some r) : CtI l yX0_bitsDoneBy cX0_bitsDoneBy 4 (some .int) { frames := 0, cells := 0, slots := 0, locals := 0 } G [.ref (ad 0), .int a1] (w_X0 G ad D KI KA RL) (w_X0 G ad D KI KA RL) sz r := by
  refine ct_of (by decide) (Nat.le_of_ble_eq_true rfl) (fun p e s m below meth c ls C w hsz hl => ?_)
  have hx := C.1
  have hb := C.2.1
  have hl : lv_has ls 4 [(0, .ref (ad 0)), (1, .int a1)] := hl
  unfold f_X0_bitsDoneBy at h
  refine lv_iconst (v := 0) hx hb dX0_bitsDoneBy_0 (by decide) ?_
  refine lv_istore_n (lv' := [(2, .int 0), (0, .ref (ad 0)), (1, .int a1)]) hx hb dX0_bitsDoneBy_1 rfl hl (by decide) rfl (fun ls hl => ?_)
  refine lv_iconst (v := 0) hx hb dX0_bitsDoneBy_2 (by decide) ?_
  refine lv_istore_n (lv' := [(3, .int 0), (2, .int 0), (0, .ref (ad 0)), (1, .int a1)]) hx hb dX0_bitsDoneBy_3 rfl hl (by decide) rfl (fun ls hl => ?_)
  exact w_X0_bitsDoneBy_4 C N N a1 0 0 h _ _ w _ (lv_sub hl [2, 3, 1, 0] rfl)
set_option maxHeartbeats 4000000 in
set_option maxRecDepth 100000 in
theorem c_X0_leftBits (l : Launch) (G : GG) (ad : Nat → Nat) (sz : Nat) (N : Nat) (D : Nat → Int32) (KI : Nat → Int32) (KA : Nat → Nat → Int32) (RL : Nat → Int32) (r : Int32) (h : f_X0_leftBits N D KI KA RL = some r) : CtI l yX0_leftBits cX0_leftBits 1 (some .int) { frames := 1, cells := 0, slots := 0, locals := 23 } G [.ref (ad 0)] (w_X0 G ad D KI KA RL) (w_X0 G ad D KI KA RL) sz r := by
  refine ct_of (by decide) (Nat.le_of_ble_eq_true rfl) (fun p e s m below meth c ls C w hsz hl => ?_)
  have hx := C.1
  have hb := C.2.1
  have hl : lv_has ls 1 [(0, .ref (ad 0))] := hl
  unfold f_X0_leftBits at h
  refine lv_aload_n hx hb dX0_leftBits_0 rfl (lv_at hl 0 rfl) ?_
  refine lv_iconst (v := (-1)) hx hb dX0_leftBits_1 (by decide) ?_
  obtain ⟨x2, hx2, h⟩ := bdS h
  have w0 := w.z
  refine cl_i (wc' := (w_X0 G ad D KI KA RL)) w0 (run_V (As := [.int (-1)]) (rest := []) C w0 (c_X0_bitsDoneBy l G ad  _ N D KI KA RL (-1) x2 hx2) mt_X0_bitsDoneBy tt_445 0 rfl rfl rfl rfl ⟨Nat.le_of_ble_eq_true rfl, Nat.le_of_ble_eq_true rfl⟩ hl.1 (Nat.le_of_ble_eq_true rfl) dX0_leftBits_2 ⟨Nat.le_of_ble_eq_true rfl, Nat.le_of_ble_eq_true rfl⟩) (fun H locs w => ?_)
  have w := w.uz
  cases h
  exact ret_I C w rfl rfl dX0_leftBits_5
set_option maxHeartbeats 4000000 in
set_option maxRecDepth 100000 in
theorem w_X0_setsWithoutAnyOf_6 {p : Program} {l : Launch} {e : Env} {s : State} {m : MethodId} {args : Array Value} {below : List Frame} {meth : Method} {c : Code} {FA : Nat → Prop} {G : GG}  {r : Int64}  (C : CX p m meth c s args yX0_setsWithoutAnyOf cX0_setsWithoutAnyOf 4 (some .long)) (N : Nat) : ∀ n : Nat, ∀ (v0 : Int32) (v1 : Int64) (v3 : Int32), f_X0_setsWithoutAnyOf_6 N n v0 v1 v3 = some r → ∀ (H : Heap) (locs : List Loc), WD G FA [] s H locs → ∀ ls : Array Slot, lv_has ls 4 [(0, .int v0), (1, .long v1), (3, .int v3)] → W p l e { frames := 1, cells := 0, slots := 0, locals := 21 } s m args below meth c H locs 0 0 (EnL below G FA args s [] r) (F0 m 6 ls []) := by
  have hx := C.1
  have hb := C.2.1
  intro n
  induction n with
  | zero =>
    intro v0 v1 v3 h
    cases h
  | succ n ih =>
    intro v0 v1 v3 h H locs w ls hl
    rw [f_X0_setsWithoutAnyOf_6] at h
    refine lv_iload_n hx hb dX0_setsWithoutAnyOf_6 rfl (lv_at hl 2 rfl) ?_
    refine lv_bipush (v := (6)) hx hb dX0_setsWithoutAnyOf_7 (by decide) ?_
    refine lv_icmp_ge (tgt := 34) hx hb dX0_setsWithoutAnyOf_9 (by decide) (fun c4 => ?_) (fun c4 => ?_)
    · rw [if_pos c4] at h
      refine lv_lload_n hx hb dX0_setsWithoutAnyOf_34 rfl (lv_at hl 1 rfl) ?_
      cases h
      exact ret_L C w rfl rfl dX0_setsWithoutAnyOf_35
    · rw [if_neg c4] at h
      refine lv_iload_n hx hb dX0_setsWithoutAnyOf_12 rfl (lv_at hl 0 rfl) ?_
      refine lv_iload_n hx hb dX0_setsWithoutAnyOf_13 rfl (lv_at hl 2 rfl) ?_
      obtain ⟨x5, hx5, h⟩ := bdS h
      have w0 : WD G _ ([] ++ ([] ++ [])) s _ _ := w
      refine cl_i (wc' := []) w0 (run_SN (As := [.int v0, .int v3]) (rest := []) C w0 (c_X5_hasBit l G  _ v0 v3 x5 hx5) mt_X5_hasBit nn_449 rfl rfl ⟨Nat.le_of_ble_eq_true rfl, Nat.le_of_ble_eq_true rfl⟩ hl.1 (Nat.le_of_ble_eq_true rfl) dX0_setsWithoutAnyOf_14 ⟨Nat.le_of_ble_eq_true rfl, Nat.le_of_ble_eq_true rfl⟩) (fun H locs w => ?_)
      have w : WD G _ [] s H locs := w
      refine lv_if_eq (tgt := 28) hx hb dX0_setsWithoutAnyOf_17 (by decide) (fun c6 => ?_) (fun c6 => ?_)
      · rw [if_pos c6] at h
        refine lv_iinc (v := v3 + 1) (lv' := [(3, .int (v3 + 1)), (0, .int v0), (1, .long v1)]) hx hb dX0_setsWithoutAnyOf_28 hl (k := 2) rfl rfl (by decide) rfl (fun ls hl => ?_)
        refine lv_goto (tgt := 6) hx hb dX0_setsWithoutAnyOf_31 (by decide) ?_
        exact ih v0 v1 (v3 + 1) h _ _ w _ (lv_sub hl [1, 2, 0] rfl)
      · rw [if_neg c6] at h
        refine lv_lload_n hx hb dX0_setsWithoutAnyOf_20 rfl (lv_at hl 1 rfl) ?_
        obtain ⟨t7, hZt7, hTt7⟩ := w.2.2.2.2.2
        refine r_gets C w hZt7 tt_482 dX0_setsWithoutAnyOf_21 ?_
        refine lv_iload_n hx hb dX0_setsWithoutAnyOf_24 rfl (lv_at hl 2 rfl) ?_
        obtain ⟨hin8, h⟩ := gdS h
        refine r_zlald C w hTt7 hin8 dX0_setsWithoutAnyOf_25 ?_
        refine lv_land hx hb dX0_setsWithoutAnyOf_26 ?_
        refine lv_lstore_n (lv' := [(1, .long (v1 &&& (SW v3.toNatClampNeg))), (0, .int v0), (3, .int v3)]) hx hb dX0_setsWithoutAnyOf_27 rfl hl (by decide) rfl (fun ls hl => ?_)
        refine lv_iinc (v := v3 + 1) (lv' := [(3, .int (v3 + 1)), (1, .long (v1 &&& (SW v3.toNatClampNeg))), (0, .int v0)]) hx hb dX0_setsWithoutAnyOf_28 hl (k := 2) rfl rfl (by decide) rfl (fun ls hl => ?_)
        refine lv_goto (tgt := 6) hx hb dX0_setsWithoutAnyOf_31 (by decide) ?_
        exact ih v0 (v1 &&& (SW v3.toNatClampNeg)) (v3 + 1) h _ _ w _ (lv_sub hl [2, 1, 0] rfl)
set_option maxHeartbeats 4000000 in
set_option maxRecDepth 100000 in
theorem c_X0_setsWithoutAnyOf (l : Launch) (G : GG) (sz : Nat) (N : Nat) (a1 : Int32) (r : Int64) (h : f_X0_setsWithoutAnyOf N a1 = some r) : CtL l yX0_setsWithoutAnyOf cX0_setsWithoutAnyOf 4 (some .long) { frames := 1, cells := 0, slots := 0, locals := 21 } G [.int a1] [] [] sz r := by
  refine ct_of (by decide) (Nat.le_of_ble_eq_true rfl) (fun p e s m below meth c ls C w hsz hl => ?_)
  have hx := C.1
  have hb := C.2.1
  have hl : lv_has ls 4 [(0, .int a1)] := hl
  unfold f_X0_setsWithoutAnyOf at h
  refine lv_ldc2 hx hb C.2.2.2.2.1 (C.ts tt_481) dX0_setsWithoutAnyOf_0 ?_
  refine lv_lstore_n (lv' := [(1, .long (-1)), (0, .int a1)]) hx hb dX0_setsWithoutAnyOf_3 rfl hl (by decide) rfl (fun ls hl => ?_)
  refine lv_iconst (v := 0) hx hb dX0_setsWithoutAnyOf_4 (by decide) ?_
  refine lv_istore_n (lv' := [(3, .int 0), (1, .long (-1)), (0, .int a1)]) hx hb dX0_setsWithoutAnyOf_5 rfl hl (by decide) rfl (fun ls hl => ?_)
  exact w_X0_setsWithoutAnyOf_6 C N N a1 (-1) 0 h _ _ w _ (lv_sub hl [2, 1, 0] rfl)
set_option maxHeartbeats 4000000 in
set_option maxRecDepth 100000 in
theorem w_X0_sharedWith_6 {p : Program} {l : Launch} {e : Env} {s : State} {m : MethodId} {args : Array Value} {below : List Frame} {meth : Method} {c : Code} {FA : Nat → Prop} {G : GG} {ad : Nat → Nat} {r : Int64} {D : Nat → Int32} {KI : Nat → Int32} {KA : Nat → Nat → Int32} {RL : Nat → Int32} (C : CX p m meth c s args yX0_sharedWith cX0_sharedWith 8 (some .long)) (N : Nat) : ∀ n : Nat, ∀ (v1 : Int64) (v3 : Int32) (v4 : Int32) (v5 : Int64) (v7 : Int32), f_X0_sharedWith_6 N D KI KA RL n v1 v3 v4 v5 v7 = some r → ∀ (H : Heap) (locs : List Loc), WD G FA (w_X0 G ad D KI KA RL) s H locs → ∀ ls : Array Slot, lv_has ls 8 [(0, .ref (ad 0)), (1, .long v1), (3, .int v3), (4, .int v4), (5, .long v5), (7, .int v7)] → W p l e { frames := 2, cells := 0, slots := 0, locals := 44 } s m args below meth c H locs 0 0 (EnL below G FA args s (w_X0 G ad D KI KA RL) r) (F0 m 6 ls []) := by
  have hx := C.1
  have hb := C.2.1
  intro n
  induction n with
  | zero =>
    intro v1 v3 v4 v5 v7 h
    cases h
  | succ n ih =>
    intro v1 v3 v4 v5 v7 h H locs w ls hl
    rw [f_X0_sharedWith_6] at h
    refine lv_iload hx hb dX0_sharedWith_6 (lv_at hl 5 rfl) ?_
    refine lv_iload_n hx hb dX0_sharedWith_8 rfl (lv_at hl 2 rfl) ?_
    refine lv_icmp_gt (tgt := 57) hx hb dX0_sharedWith_9 (by decide) (fun c3 => ?_) (fun c3 => ?_)
    · rw [if_pos c3] at h
      refine lv_lload hx hb dX0_sharedWith_57 (lv_at hl 4 rfl) ?_
      cases h
      exact ret_L C w rfl rfl dX0_sharedWith_59
    · rw [if_neg c3] at h
      refine lv_iload hx hb dX0_sharedWith_12 (lv_at hl 5 rfl) ?_
      refine lv_iload_n hx hb dX0_sharedWith_14 rfl (lv_at hl 2 rfl) ?_
      refine lv_iconst (v := (-1)) hx hb dX0_sharedWith_15 (by decide) ?_
      refine lv_ixor hx hb dX0_sharedWith_16 ?_
      refine lv_iand hx hb dX0_sharedWith_17 ?_
      refine lv_if_ne (tgt := 51) hx hb dX0_sharedWith_18 (by decide) (fun c4 => ?_) (fun c4 => ?_)
      · rw [if_neg c4] at h
        refine lv_iinc (v := v7 + 1) (lv' := [(7, .int (v7 + 1)), (0, .ref (ad 0)), (1, .long v1), (3, .int v3), (4, .int v4), (5, .long v5)]) hx hb dX0_sharedWith_51 hl (k := 5) rfl rfl (by decide) rfl (fun ls hl => ?_)
        refine lv_goto (tgt := 6) hx hb dX0_sharedWith_54 (by decide) ?_
        exact ih v1 v3 v4 v5 (v7 + 1) h _ _ w _ (lv_sub hl [1, 2, 3, 4, 5, 0] rfl)
      · rw [if_pos c4] at h
        refine lv_aload_n hx hb dX0_sharedWith_21 rfl (lv_at hl 0 rfl) ?_
        refine r_get C w 0 0 0 (.ref (ad 2)) ge_X0_0 rfl inX0 (by decide) tt_418 rfl dX0_sharedWith_22 ?_
        refine lv_iload hx hb dX0_sharedWith_25 (lv_at hl 3 rfl) ?_
        refine lv_iload hx hb dX0_sharedWith_27 (lv_at hl 5 rfl) ?_
        refine lv_ior hx hb dX0_sharedWith_29 ?_
        obtain ⟨x5, hx5, h⟩ := bdS h
        have w0 := w.cut 2 7 (wc := (w_X2 G (fun i => ad (2 + i)) KI KA)) rfl
        refine cl_i (wc' := (w_X2 G (fun i => ad (2 + i)) KI KA)) w0 (run_VN (As := [.int (v4 ||| v7)]) (rest := []) C w0 (c_X2_allows l G (fun i => ad (2 + i))  _ N KI KA (v4 ||| v7) x5 hx5) mt_X2_allows nn_473 2 rfl rfl rfl rfl ⟨Nat.le_of_ble_eq_true rfl, Nat.le_of_ble_eq_true rfl⟩ hl.1 (Nat.le_of_ble_eq_true rfl) dX0_sharedWith_30 ⟨Nat.le_of_ble_eq_true rfl, Nat.le_of_ble_eq_true rfl⟩) (fun H locs w => ?_)
        have w : WD G _ (w_X0 G ad D KI KA RL) s H locs := w
        refine lv_if_eq (tgt := 51) hx hb dX0_sharedWith_33 (by decide) (fun c6 => ?_) (fun c6 => ?_)
        · rw [if_pos c6] at h
          refine lv_iinc (v := v7 + 1) (lv' := [(7, .int (v7 + 1)), (0, .ref (ad 0)), (1, .long v1), (3, .int v3), (4, .int v4), (5, .long v5)]) hx hb dX0_sharedWith_51 hl (k := 5) rfl rfl (by decide) rfl (fun ls hl => ?_)
          refine lv_goto (tgt := 6) hx hb dX0_sharedWith_54 (by decide) ?_
          exact ih v1 v3 v4 v5 (v7 + 1) h _ _ w _ (lv_sub hl [1, 2, 3, 4, 5, 0] rfl)
        · rw [if_neg c6] at h
          refine lv_lload hx hb dX0_sharedWith_36 (lv_at hl 4 rfl) ?_
          refine lv_lload_n hx hb dX0_sharedWith_38 rfl (lv_at hl 1 rfl) ?_
          refine lv_iload hx hb dX0_sharedWith_39 (lv_at hl 5 rfl) ?_
          obtain ⟨x7, hx7, h⟩ := bdS h
          have w0 : WD G _ ([] ++ ([] ++ (w_X0 G ad D KI KA RL))) s _ _ := w
          refine cl_l (wc' := []) w0 (run_S (As := [.int v7]) (rest := [.long v1, .long v5]) C w0 (c_X0_setsWithoutAnyOf l G  _ N v7 x7 hx7) mt_X0_setsWithoutAnyOf tt_478 rfl rfl ⟨Nat.le_of_ble_eq_true rfl, Nat.le_of_ble_eq_true rfl⟩ hl.1 (Nat.le_of_ble_eq_true rfl) dX0_sharedWith_41 ⟨Nat.le_of_ble_eq_true rfl, Nat.le_of_ble_eq_true rfl⟩) (fun H locs w => ?_)
          have w : WD G _ (w_X0 G ad D KI KA RL) s H locs := w
          refine lv_land hx hb dX0_sharedWith_44 ?_
          refine lv_iload hx hb dX0_sharedWith_45 (lv_at hl 5 rfl) ?_
          refine lv_lshl (v := shL (v1 &&& x7) v7) hx hb dX0_sharedWith_47 rfl ?_
          refine lv_lor hx hb dX0_sharedWith_48 ?_
          refine lv_lstore (lv' := [(5, .long (v5 ||| (shL (v1 &&& x7) v7))), (0, .ref (ad 0)), (1, .long v1), (3, .int v3), (4, .int v4), (7, .int v7)]) hx hb dX0_sharedWith_49 hl (by decide) rfl (fun ls hl => ?_)
          refine lv_iinc (v := v7 + 1) (lv' := [(7, .int (v7 + 1)), (5, .long (v5 ||| (shL (v1 &&& x7) v7))), (0, .ref (ad 0)), (1, .long v1), (3, .int v3), (4, .int v4)]) hx hb dX0_sharedWith_51 hl (k := 5) rfl rfl (by decide) rfl (fun ls hl => ?_)
          refine lv_goto (tgt := 6) hx hb dX0_sharedWith_54 (by decide) ?_
          exact ih v1 v3 v4 (v5 ||| (shL (v1 &&& x7) v7)) (v7 + 1) h _ _ w _ (lv_sub hl [2, 3, 4, 5, 1, 0] rfl)
set_option maxHeartbeats 4000000 in
set_option maxRecDepth 100000 in
theorem c_X0_sharedWith (l : Launch) (G : GG) (ad : Nat → Nat) (sz : Nat) (N : Nat) (D : Nat → Int32) (KI : Nat → Int32) (KA : Nat → Nat → Int32) (RL : Nat → Int32) (a1 : Int64) (a2 : Int32) (a3 : Int32) (r : Int64) (h : f_X0_sharedWith N D KI KA RL a1 a2 a3 = some r) : CtL l yX0_sharedWith cX0_sharedWith 8 (some .long) { frames := 2, cells := 0, slots := 0, locals := 44 } G [.ref (ad 0), .long a1, .int a2, .int a3] (w_X0 G ad D KI KA RL) (w_X0 G ad D KI KA RL) sz r := by
  refine ct_of (by decide) (Nat.le_of_ble_eq_true rfl) (fun p e s m below meth c ls C w hsz hl => ?_)
  have hx := C.1
  have hb := C.2.1
  have hl : lv_has ls 8 [(0, .ref (ad 0)), (1, .long a1), (3, .int a2), (4, .int a3)] := hl
  unfold f_X0_sharedWith at h
  refine lv_lconst (v := 0) hx hb dX0_sharedWith_0 (by decide) ?_
  refine lv_lstore (lv' := [(5, .long 0), (0, .ref (ad 0)), (1, .long a1), (3, .int a2), (4, .int a3)]) hx hb dX0_sharedWith_1 hl (by decide) rfl (fun ls hl => ?_)
  refine lv_iconst (v := 0) hx hb dX0_sharedWith_3 (by decide) ?_
  refine lv_istore (lv' := [(7, .int 0), (5, .long 0), (0, .ref (ad 0)), (1, .long a1), (3, .int a2), (4, .int a3)]) hx hb dX0_sharedWith_4 hl (by decide) rfl (fun ls hl => ?_)
  exact w_X0_sharedWith_6 C N N a1 a2 a3 0 0 h _ _ w _ (lv_sub hl [2, 3, 4, 5, 1, 0] rfl)
set_option maxHeartbeats 4000000 in
set_option maxRecDepth 100000 in
theorem w_X0_couldEnd_10 {p : Program} {l : Launch} {e : Env} {s : State} {m : MethodId} {args : Array Value} {below : List Frame} {meth : Method} {c : Code} {FA : Nat → Prop} {G : GG} {ad : Nat → Nat} {r : Int32} {D : Nat → Int32} {KI : Nat → Int32} {KA : Nat → Nat → Int32} {RL : Nat → Int32} (C : CX p m meth c s args yX0_couldEnd cX0_couldEnd 7 (some .boolean)) (N : Nat) : ∀ n : Nat, ∀ (v2 : Int32) (v3 : Int64) (v5 : Int32), f_X0_couldEnd_10 N D KI KA RL n v2 v3 v5 = some r → ∀ (H : Heap) (locs : List Loc), WD G FA (w_X0 G ad D KI KA RL) s H locs → ∀ ls : Array Slot, lv_has ls 7 [(0, .ref (ad 0)), (1, .ref (ad 7)), (2, .int v2), (3, .long v3), (5, .int v5)] → W p l e { frames := 3, cells := 0, slots := 0, locals := 71 } s m args below meth c H locs 0 0 (EnI below G FA args s (w_X0 G ad D KI KA RL) r) (F0 m 10 ls []) := by
  have hx := C.1
  have hb := C.2.1
  intro n
  induction n with
  | zero =>
    intro v2 v3 v5 h
    cases h
  | succ n ih =>
    intro v2 v3 v5 h H locs w ls hl
    rw [f_X0_couldEnd_10] at h
    refine lv_iload hx hb dX0_couldEnd_10 (lv_at hl 4 rfl) ?_
    refine lv_bipush (v := (12)) hx hb dX0_couldEnd_12 (by decide) ?_
    refine lv_icmp_ge (tgt := 52) hx hb dX0_couldEnd_14 (by decide) (fun c6 => ?_) (fun c6 => ?_)
    · rw [if_pos c6] at h
      refine lv_lload_n hx hb dX0_couldEnd_52 rfl (lv_at hl 3 rfl) ?_
      refine lv_iload_n hx hb dX0_couldEnd_53 rfl (lv_at hl 2 rfl) ?_
      refine lv_lushr (v := uShL v3 v2) hx hb dX0_couldEnd_54 rfl ?_
      refine lv_lconst (v := 1) hx hb dX0_couldEnd_55 (by decide) ?_
      refine lv_land hx hb dX0_couldEnd_56 ?_
      refine lv_lconst (v := 0) hx hb dX0_couldEnd_57 (by decide) ?_
      refine W.lcmp hx hb dX0_couldEnd_58 ?_
      refine lv_if_eq (tgt := 66) hx hb dX0_couldEnd_59 (by decide) (fun c7 => ?_) (fun c7 => ?_)
      · rw [if_pos c7] at h
        refine lv_iconst (v := 0) hx hb dX0_couldEnd_66 (by decide) ?_
        cases h
        exact ret_Z C w (Or.inl rfl) rfl rfl dX0_couldEnd_67
      · rw [if_neg c7] at h
        refine lv_iconst (v := 1) hx hb dX0_couldEnd_62 (by decide) ?_
        refine lv_goto (tgt := 67) hx hb dX0_couldEnd_63 (by decide) ?_
        cases h
        exact ret_Z C w (Or.inr rfl) rfl rfl dX0_couldEnd_67
    · rw [if_neg c6] at h
      refine lv_iload_n hx hb dX0_couldEnd_17 rfl (lv_at hl 2 rfl) ?_
      refine lv_aload_n hx hb dX0_couldEnd_18 rfl (lv_at hl 0 rfl) ?_
      refine r_get C w 0 0 0 (.ref (ad 2)) ge_X0_0 rfl inX0 (by decide) tt_418 rfl dX0_couldEnd_19 ?_
      refine lv_aload_n hx hb dX0_couldEnd_22 rfl (lv_at hl 1 rfl) ?_
      refine lv_iload hx hb dX0_couldEnd_23 (lv_at hl 4 rfl) ?_
      obtain ⟨hin8, h⟩ := gdS h
      refine r_iald C w 7 (RL v5.toNatClampNeg) ge_X0_7 rfl hin8 dX0_couldEnd_25 ?_
      obtain ⟨x9, hx9, h⟩ := bdS h
      have w0 := w.cut 2 7 (wc := (w_X2 G (fun i => ad (2 + i)) KI KA)) rfl
      refine cl_i (wc' := (w_X2 G (fun i => ad (2 + i)) KI KA)) w0 (run_VN (As := [.int (RL v5.toNatClampNeg)]) (rest := [.int v2]) C w0 (c_X2_tasksWithin l G (fun i => ad (2 + i))  _ N KI KA (RL v5.toNatClampNeg) x9 hx9) mt_X2_tasksWithin nn_464 2 rfl rfl rfl rfl ⟨Nat.le_of_ble_eq_true rfl, Nat.le_of_ble_eq_true rfl⟩ hl.1 (Nat.le_of_ble_eq_true rfl) dX0_couldEnd_26 ⟨Nat.le_of_ble_eq_true rfl, Nat.le_of_ble_eq_true rfl⟩) (fun H locs w => ?_)
      have w : WD G _ (w_X0 G ad D KI KA RL) s H locs := w
      refine lv_iand hx hb dX0_couldEnd_29 ?_
      refine lv_istore (lv' := [(6, .int (v2 &&& x9)), (0, .ref (ad 0)), (1, .ref (ad 7)), (2, .int v2), (3, .long v3), (5, .int v5)]) hx hb dX0_couldEnd_30 hl (by decide) rfl (fun ls hl => ?_)
      refine lv_aload_n hx hb dX0_couldEnd_32 rfl (lv_at hl 1 rfl) ?_
      refine lv_lload_n hx hb dX0_couldEnd_33 rfl (lv_at hl 4 rfl) ?_
      refine lv_iload hx hb dX0_couldEnd_34 (lv_at hl 0 rfl) ?_
      refine lv_aload_n hx hb dX0_couldEnd_36 rfl (lv_at hl 1 rfl) ?_
      refine lv_iload hx hb dX0_couldEnd_37 (lv_at hl 5 rfl) ?_
      obtain ⟨x10, hx10, h⟩ := bdS h
      have w0 := w.z
      refine cl_i (wc' := (w_X0 G ad D KI KA RL)) w0 (run_V (As := [.int v5]) (rest := [.int (v2 &&& x9), .long v3, .ref (ad 0)]) C w0 (c_X0_bitsDoneBy l G ad  _ N D KI KA RL v5 x10 hx10) mt_X0_bitsDoneBy tt_445 0 rfl rfl rfl rfl ⟨Nat.le_of_ble_eq_true rfl, Nat.le_of_ble_eq_true rfl⟩ hl.1 (Nat.le_of_ble_eq_true rfl) dX0_couldEnd_39 ⟨Nat.le_of_ble_eq_true rfl, Nat.le_of_ble_eq_true rfl⟩) (fun H locs w => ?_)
      have w := w.uz
      obtain ⟨x11, hx11, h⟩ := bdS h
      have w0 := w.z
      refine cl_l (wc' := (w_X0 G ad D KI KA RL)) w0 (run_V (As := [.long v3, .int (v2 &&& x9), .int x10]) (rest := []) C w0 (c_X0_sharedWith l G ad  _ N D KI KA RL v3 (v2 &&& x9) x10 x11 hx11) mt_X0_sharedWith tt_469 0 rfl rfl rfl rfl ⟨Nat.le_of_ble_eq_true rfl, Nat.le_of_ble_eq_true rfl⟩ hl.1 (Nat.le_of_ble_eq_true rfl) dX0_couldEnd_42 ⟨Nat.le_of_ble_eq_true rfl, Nat.le_of_ble_eq_true rfl⟩) (fun H locs w => ?_)
      have w := w.uz
      refine lv_lstore_n (lv' := [(3, .long x11), (6, .int (v2 &&& x9)), (0, .ref (ad 0)), (1, .ref (ad 7)), (2, .int v2), (5, .int v5)]) hx hb dX0_couldEnd_45 rfl hl (by decide) rfl (fun ls hl => ?_)
      refine lv_iinc (v := v5 + 1) (lv' := [(5, .int (v5 + 1)), (3, .long x11), (6, .int (v2 &&& x9)), (0, .ref (ad 0)), (1, .ref (ad 7)), (2, .int v2)]) hx hb dX0_couldEnd_46 hl (k := 5) rfl rfl (by decide) rfl (fun ls hl => ?_)
      refine lv_goto (tgt := 10) hx hb dX0_couldEnd_49 (by decide) ?_
      exact ih v2 x11 (v5 + 1) h _ _ w _ (lv_sub hl [3, 4, 5, 1, 0] rfl)
set_option maxHeartbeats 4000000 in
set_option maxRecDepth 100000 in
theorem c_X0_couldEnd (l : Launch) (G : GG) (ad : Nat → Nat) (sz : Nat) (N : Nat) (D : Nat → Int32) (KI : Nat → Int32) (KA : Nat → Nat → Int32) (RL : Nat → Int32) (r : Int32) (h : f_X0_couldEnd N D KI KA RL = some r) : CtI l yX0_couldEnd cX0_couldEnd 7 (some .boolean) { frames := 3, cells := 0, slots := 0, locals := 71 } G [.ref (ad 0), .ref (ad 7)] (w_X0 G ad D KI KA RL) (w_X0 G ad D KI KA RL) sz r := by
  refine ct_of (by decide) (Nat.le_of_ble_eq_true rfl) (fun p e s m below meth c ls C w hsz hl => ?_)
  have hx := C.1
  have hb := C.2.1
  have hl : lv_has ls 7 [(0, .ref (ad 0)), (1, .ref (ad 7))] := hl
  unfold f_X0_couldEnd at h
  refine lv_aload_n hx hb dX0_couldEnd_0 rfl (lv_at hl 0 rfl) ?_
  obtain ⟨x12, hx12, h⟩ := bdS h
  have w0 := w.z
  refine cl_i (wc' := (w_X0 G ad D KI KA RL)) w0 (run_V (As := []) (rest := []) C w0 (c_X0_leftBits l G ad  _ N D KI KA RL x12 hx12) mt_X0_leftBits tt_441 0 rfl rfl rfl rfl ⟨Nat.le_of_ble_eq_true rfl, Nat.le_of_ble_eq_true rfl⟩ hl.1 (Nat.le_of_ble_eq_true rfl) dX0_couldEnd_1 ⟨Nat.le_of_ble_eq_true rfl, Nat.le_of_ble_eq_true rfl⟩) (fun H locs w => ?_)
  have w := w.uz
  refine lv_istore_n (lv' := [(2, .int x12), (0, .ref (ad 0)), (1, .ref (ad 7))]) hx hb dX0_couldEnd_4 rfl hl (by decide) rfl (fun ls hl => ?_)
  refine lv_lconst (v := 1) hx hb dX0_couldEnd_5 (by decide) ?_
  refine lv_lstore_n (lv' := [(3, .long 1), (2, .int x12), (0, .ref (ad 0)), (1, .ref (ad 7))]) hx hb dX0_couldEnd_6 rfl hl (by decide) rfl (fun ls hl => ?_)
  refine lv_iconst (v := 0) hx hb dX0_couldEnd_7 (by decide) ?_
  refine lv_istore (lv' := [(5, .int 0), (3, .long 1), (2, .int x12), (0, .ref (ad 0)), (1, .ref (ad 7))]) hx hb dX0_couldEnd_8 hl (by decide) rfl (fun ls hl => ?_)
  exact w_X0_couldEnd_10 C N N x12 1 0 h _ _ w _ (lv_sub hl [3, 4, 2, 1, 0] rfl)
set_option maxHeartbeats 4000000 in
set_option maxRecDepth 100000 in
theorem c_X0_wouldStick (l : Launch) (G : GG) (ad : Nat → Nat) (sz : Nat) (N : Nat) (D : Nat → Int32) (KI : Nat → Int32) (KA : Nat → Nat → Int32) (RL : Nat → Int32) (a1 : Int32) (a2 : Int32) (r : Int32) (D' : Nat → Int32) (KI' : Nat → Int32) (KA' : Nat → Nat → Int32) (RL' : Nat → Int32) (h : f_X0_wouldStick N D KI KA RL a1 a2 = some (r, D', KI', KA', RL')) : CtI l yX0_wouldStick cX0_wouldStick 5 (some .boolean) { frames := 4, cells := 0, slots := 0, locals := 97 } G [.ref (ad 0), .int a1, .int a2, .ref (ad 7)] (w_X0 G ad D KI KA RL) (w_X0 G ad D' KI' KA' RL') sz r := by
  refine ct_of (by decide) (Nat.le_of_ble_eq_true rfl) (fun p e s m below meth c ls C w hsz hl => ?_)
  have hx := C.1
  have hb := C.2.1
  have hl : lv_has ls 5 [(0, .ref (ad 0)), (1, .int a1), (2, .int a2), (3, .ref (ad 7))] := hl
  unfold f_X0_wouldStick at h
  refine lv_aload_n hx hb dX0_wouldStick_0 rfl (lv_at hl 0 rfl) ?_
  refine lv_aload_n hx hb dX0_wouldStick_1 rfl (lv_at hl 3 rfl) ?_
  obtain ⟨x6, hx6, h⟩ := bdS h
  have w0 := w.z
  refine cl_i (wc' := (w_X0 G ad D KI KA RL)) w0 (run_V (As := [.ref (ad 7)]) (rest := []) C w0 (c_X0_couldEnd l G ad  _ N D KI KA RL x6 hx6) mt_X0_couldEnd tt_460 0 rfl rfl rfl rfl ⟨Nat.le_of_ble_eq_true rfl, Nat.le_of_ble_eq_true rfl⟩ hl.1 (Nat.le_of_ble_eq_true rfl) dX0_wouldStick_2 ⟨Nat.le_of_ble_eq_true rfl, Nat.le_of_ble_eq_true rfl⟩) (fun H locs w => ?_)
  have w := w.uz
  refine lv_if_ne (tgt := 10) hx hb dX0_wouldStick_5 (by decide) (fun c7 => ?_) (fun c7 => ?_)
  · rw [if_neg c7] at h
    refine lv_aload_n hx hb dX0_wouldStick_10 rfl (lv_at hl 0 rfl) ?_
    refine r_get C w 0 0 1 (.ref (ad 1)) ge_X0_0 rfl inX0 (by decide) tt_420 rfl dX0_wouldStick_11 ?_
    refine lv_iload_n hx hb dX0_wouldStick_14 rfl (lv_at hl 1 rfl) ?_
    refine lv_iload_n hx hb dX0_wouldStick_15 rfl (lv_at hl 2 rfl) ?_
    obtain ⟨hin8, h⟩ := gdS h
    refine r_iast C w 1 (w_X0 G ad (upd D a1.toNatClampNeg a2) KI KA RL) ge_X0_1 hin8 st_X0_1 dX0_wouldStick_16 (fun H locs w => ?_)
    refine lv_aload_n hx hb dX0_wouldStick_17 rfl (lv_at hl 0 rfl) ?_
    refine lv_aload_n hx hb dX0_wouldStick_18 rfl (lv_at hl 3 rfl) ?_
    obtain ⟨x9, hx9, h⟩ := bdS h
    have w0 := w.z
    refine cl_i (wc' := (w_X0 G ad (upd D a1.toNatClampNeg a2) KI KA RL)) w0 (run_V (As := [.ref (ad 7)]) (rest := []) C w0 (c_X0_couldEnd l G ad  _ N (upd D a1.toNatClampNeg a2) KI KA RL x9 hx9) mt_X0_couldEnd tt_460 0 rfl rfl rfl rfl ⟨Nat.le_of_ble_eq_true rfl, Nat.le_of_ble_eq_true rfl⟩ hl.1 (Nat.le_of_ble_eq_true rfl) dX0_wouldStick_19 ⟨Nat.le_of_ble_eq_true rfl, Nat.le_of_ble_eq_true rfl⟩) (fun H locs w => ?_)
    have w := w.uz
    refine lv_if_ne (tgt := 29) hx hb dX0_wouldStick_22 (by decide) (fun c10 => ?_) (fun c10 => ?_)
    · rw [if_neg c10] at h
      refine lv_iconst (v := 0) hx hb dX0_wouldStick_29 (by decide) ?_
      refine lv_istore (lv' := [(4, .int 0), (0, .ref (ad 0)), (1, .int a1), (2, .int a2), (3, .ref (ad 7))]) hx hb dX0_wouldStick_30 hl (by decide) rfl (fun ls hl => ?_)
      refine lv_aload_n hx hb dX0_wouldStick_32 rfl (lv_at hl 1 rfl) ?_
      refine r_get C w 0 0 1 (.ref (ad 1)) ge_X0_0 rfl inX0 (by decide) tt_420 rfl dX0_wouldStick_33 ?_
      refine lv_iload_n hx hb dX0_wouldStick_36 rfl (lv_at hl 2 rfl) ?_
      refine lv_iconst (v := (-1)) hx hb dX0_wouldStick_37 (by decide) ?_
      obtain ⟨hin11, h⟩ := gdS h
      refine r_iast C w 1 (w_X0 G ad (upd (upd D a1.toNatClampNeg a2) a1.toNatClampNeg (-1)) KI KA RL) ge_X0_1 hin11 st_X0_1 dX0_wouldStick_38 (fun H locs w => ?_)
      refine lv_iload hx hb dX0_wouldStick_39 (lv_at hl 0 rfl) ?_
      cases h
      exact ret_Z C w (Or.inl rfl) rfl rfl dX0_wouldStick_41
    · rw [if_pos c10] at h
      refine lv_iconst (v := 1) hx hb dX0_wouldStick_25 (by decide) ?_
      refine lv_goto (tgt := 30) hx hb dX0_wouldStick_26 (by decide) ?_
      refine lv_istore (lv' := [(4, .int 1), (0, .ref (ad 0)), (1, .int a1), (2, .int a2), (3, .ref (ad 7))]) hx hb dX0_wouldStick_30 hl (by decide) rfl (fun ls hl => ?_)
      refine lv_aload_n hx hb dX0_wouldStick_32 rfl (lv_at hl 1 rfl) ?_
      refine r_get C w 0 0 1 (.ref (ad 1)) ge_X0_0 rfl inX0 (by decide) tt_420 rfl dX0_wouldStick_33 ?_
      refine lv_iload_n hx hb dX0_wouldStick_36 rfl (lv_at hl 2 rfl) ?_
      refine lv_iconst (v := (-1)) hx hb dX0_wouldStick_37 (by decide) ?_
      obtain ⟨hin12, h⟩ := gdS h
      refine r_iast C w 1 (w_X0 G ad (upd (upd D a1.toNatClampNeg a2) a1.toNatClampNeg (-1)) KI KA RL) ge_X0_1 hin12 st_X0_1 dX0_wouldStick_38 (fun H locs w => ?_)
      refine lv_iload hx hb dX0_wouldStick_39 (lv_at hl 0 rfl) ?_
      cases h
      exact ret_Z C w (Or.inr rfl) rfl rfl dX0_wouldStick_41
  · rw [if_pos c7] at h
    refine lv_iconst (v := 0) hx hb dX0_wouldStick_8 (by decide) ?_
    cases h
    exact ret_Z C w (Or.inl rfl) rfl rfl dX0_wouldStick_9
set_option maxHeartbeats 4000000 in
set_option maxRecDepth 100000 in
theorem c_X0_verdict (l : Launch) (G : GG) (ad : Nat → Nat) (sz : Nat) (N : Nat) (D : Nat → Int32) (KI : Nat → Int32) (KA : Nat → Nat → Int32) (RL : Nat → Int32) (a1 : Int32) (a2 : Int32) (r : Int32) (D' : Nat → Int32) (KI' : Nat → Int32) (KA' : Nat → Nat → Int32) (RL' : Nat → Int32) (h : f_X0_verdict N D KI KA RL a1 a2 = some (r, D', KI', KA', RL')) : CtI l yX0_verdict cX0_verdict 6 (some .int) { frames := 5, cells := 0, slots := 0, locals := 121 } G [.ref (ad 0), .int a1, .int a2, .ref (ad 7)] (w_X0 G ad D KI KA RL) (w_X0 G ad D' KI' KA' RL') sz r := by
  refine ct_of (by decide) (Nat.le_of_ble_eq_true rfl) (fun p e s m below meth c ls C w hsz hl => ?_)
  have hx := C.1
  have hb := C.2.1
  have hl : lv_has ls 6 [(0, .ref (ad 0)), (1, .int a1), (2, .int a2), (3, .ref (ad 7))] := hl
  unfold f_X0_verdict at h
  refine lv_aload_n hx hb dX0_verdict_0 rfl (lv_at hl 0 rfl) ?_
  refine r_get C w 0 0 0 (.ref (ad 2)) ge_X0_0 rfl inX0 (by decide) tt_418 rfl dX0_verdict_1 ?_
  obtain ⟨x13, hx13, h⟩ := bdS h
  have w0 := w.cut 2 7 (wc := (w_X2 G (fun i => ad (2 + i)) KI KA)) rfl
  refine cl_i (wc' := (w_X2 G (fun i => ad (2 + i)) KI KA)) w0 (run_VN (As := []) (rest := []) C w0 (c_X2_taskBits l G (fun i => ad (2 + i))  _ KI KA x13 hx13) mt_X2_taskBits nn_440 2 rfl rfl rfl rfl ⟨Nat.le_of_ble_eq_true rfl, Nat.le_of_ble_eq_true rfl⟩ hl.1 (Nat.le_of_ble_eq_true rfl) dX0_verdict_4 ⟨Nat.le_of_ble_eq_true rfl, Nat.le_of_ble_eq_true rfl⟩) (fun H locs w => ?_)
  have w : WD G _ (w_X0 G ad D KI KA RL) s H locs := w
  refine lv_aload_n hx hb dX0_verdict_7 rfl (lv_at hl 0 rfl) ?_
  obtain ⟨x14, hx14, h⟩ := bdS h
  have w0 := w.z
  refine cl_i (wc' := (w_X0 G ad D KI KA RL)) w0 (run_V (As := []) (rest := [.int x13]) C w0 (c_X0_leftBits l G ad  _ N D KI KA RL x14 hx14) mt_X0_leftBits tt_441 0 rfl rfl rfl rfl ⟨Nat.le_of_ble_eq_true rfl, Nat.le_of_ble_eq_true rfl⟩ hl.1 (Nat.le_of_ble_eq_true rfl) dX0_verdict_8 ⟨Nat.le_of_ble_eq_true rfl, Nat.le_of_ble_eq_true rfl⟩) (fun H locs w => ?_)
  have w := w.uz
  refine lv_iconst (v := (-1)) hx hb dX0_verdict_11 (by decide) ?_
  refine lv_ixor hx hb dX0_verdict_12 ?_
  refine lv_iand hx hb dX0_verdict_13 ?_
  refine lv_istore (lv' := [(4, .int (x13 &&& (x14 ^^^ (-1)))), (0, .ref (ad 0)), (1, .int a1), (2, .int a2), (3, .ref (ad 7))]) hx hb dX0_verdict_14 hl (by decide) rfl (fun ls hl => ?_)
  refine lv_aload_n hx hb dX0_verdict_16 rfl (lv_at hl 1 rfl) ?_
  refine lv_iload_n hx hb dX0_verdict_17 rfl (lv_at hl 3 rfl) ?_
  obtain ⟨x15, hx15, h⟩ := bdS h
  have w0 := w.z
  refine cl_i (wc' := (w_X0 G ad D KI KA RL)) w0 (run_V (As := [.int a2]) (rest := []) C w0 (c_X0_bitsDoneBy l G ad  _ N D KI KA RL a2 x15 hx15) mt_X0_bitsDoneBy tt_445 0 rfl rfl rfl rfl ⟨Nat.le_of_ble_eq_true rfl, Nat.le_of_ble_eq_true rfl⟩ hl.1 (Nat.le_of_ble_eq_true rfl) dX0_verdict_18 ⟨Nat.le_of_ble_eq_true rfl, Nat.le_of_ble_eq_true rfl⟩) (fun H locs w => ?_)
  have w := w.uz
  refine lv_istore (lv' := [(5, .int x15), (4, .int (x13 &&& (x14 ^^^ (-1)))), (0, .ref (ad 0)), (1, .int a1), (2, .int a2), (3, .ref (ad 7))]) hx hb dX0_verdict_21 hl (by decide) rfl (fun ls hl => ?_)
  refine lv_iload hx hb dX0_verdict_23 (lv_at hl 1 rfl) ?_
  refine lv_iload_n hx hb dX0_verdict_25 rfl (lv_at hl 3 rfl) ?_
  obtain ⟨x16, hx16, h⟩ := bdS h
  have w0 : WD G _ ([] ++ ([] ++ (w_X0 G ad D KI KA RL))) s _ _ := w
  refine cl_i (wc' := []) w0 (run_SN (As := [.int (x13 &&& (x14 ^^^ (-1))), .int a1]) (rest := []) C w0 (c_X5_hasBit l G  _ (x13 &&& (x14 ^^^ (-1))) a1 x16 hx16) mt_X5_hasBit nn_449 rfl rfl ⟨Nat.le_of_ble_eq_true rfl, Nat.le_of_ble_eq_true rfl⟩ hl.1 (Nat.le_of_ble_eq_true rfl) dX0_verdict_26 ⟨Nat.le_of_ble_eq_true rfl, Nat.le_of_ble_eq_true rfl⟩) (fun H locs w => ?_)
  have w : WD G _ (w_X0 G ad D KI KA RL) s H locs := w
  refine lv_if_eq (tgt := 35) hx hb dX0_verdict_29 (by decide) (fun c17 => ?_) (fun c17 => ?_)
  · rw [if_pos c17] at h
    refine lv_aload_n hx hb dX0_verdict_35 rfl (lv_at hl 2 rfl) ?_
    refine r_get C w 0 0 0 (.ref (ad 2)) ge_X0_0 rfl inX0 (by decide) tt_418 rfl dX0_verdict_36 ?_
    refine r_getN C w 2 2 1 (.ref (ad 4)) ge_X0_2 rfl inX2 (by decide) nn_336 rfl dX0_verdict_39 ?_
    refine lv_iload_n hx hb dX0_verdict_42 rfl (lv_at hl 3 rfl) ?_
    obtain ⟨hin18, h⟩ := gdS h
    refine r_iald C w 4 (KA 1 a1.toNatClampNeg) ge_X0_4 rfl hin18 dX0_verdict_43 ?_
    refine lv_iload hx hb dX0_verdict_44 (lv_at hl 1 rfl) ?_
    refine lv_iconst (v := (-1)) hx hb dX0_verdict_46 (by decide) ?_
    refine lv_ixor hx hb dX0_verdict_47 ?_
    refine lv_iand hx hb dX0_verdict_48 ?_
    refine lv_if_eq (tgt := 55) hx hb dX0_verdict_49 (by decide) (fun c19 => ?_) (fun c19 => ?_)
    · rw [if_pos c19] at h
      refine lv_aload_n hx hb dX0_verdict_55 rfl (lv_at hl 5 rfl) ?_
      refine lv_iload_n hx hb dX0_verdict_56 rfl (lv_at hl 4 rfl) ?_
      obtain ⟨hin20, h⟩ := gdS h
      refine r_iald C w 7 (RL a2.toNatClampNeg) ge_X0_7 rfl hin20 dX0_verdict_57 ?_
      refine lv_aload_n hx hb dX0_verdict_58 rfl (lv_at hl 2 rfl) ?_
      refine r_get C w 0 0 0 (.ref (ad 2)) ge_X0_0 rfl inX0 (by decide) tt_418 rfl dX0_verdict_59 ?_
      refine r_getN C w 2 2 0 (.ref (ad 3)) ge_X0_2 rfl inX2 (by decide) nn_334 rfl dX0_verdict_62 ?_
      refine lv_iload_n hx hb dX0_verdict_65 rfl (lv_at hl 3 rfl) ?_
      obtain ⟨hin21, h⟩ := gdS h
      refine r_iald C w 3 (KA 0 a1.toNatClampNeg) ge_X0_3 rfl hin21 dX0_verdict_66 ?_
      obtain ⟨x22, hx22, h⟩ := bdS h
      have w0 : WD G _ ([] ++ ([] ++ (w_X0 G ad D KI KA RL))) s _ _ := w
      refine cl_i (wc' := []) w0 (run_SN (As := [.int (RL a2.toNatClampNeg), .int (KA 0 a1.toNatClampNeg)]) (rest := []) C w0 (c_X5_hasBit l G  _ (RL a2.toNatClampNeg) (KA 0 a1.toNatClampNeg) x22 hx22) mt_X5_hasBit nn_449 rfl rfl ⟨Nat.le_of_ble_eq_true rfl, Nat.le_of_ble_eq_true rfl⟩ hl.1 (Nat.le_of_ble_eq_true rfl) dX0_verdict_67 ⟨Nat.le_of_ble_eq_true rfl, Nat.le_of_ble_eq_true rfl⟩) (fun H locs w => ?_)
      have w : WD G _ (w_X0 G ad D KI KA RL) s H locs := w
      refine lv_if_ne (tgt := 76) hx hb dX0_verdict_70 (by decide) (fun c23 => ?_) (fun c23 => ?_)
      · rw [if_neg c23] at h
        refine lv_aload_n hx hb dX0_verdict_76 rfl (lv_at hl 2 rfl) ?_
        refine r_get C w 0 0 0 (.ref (ad 2)) ge_X0_0 rfl inX0 (by decide) tt_418 rfl dX0_verdict_77 ?_
        refine r_getN C w 2 2 2 (.ref (ad 5)) ge_X0_2 rfl inX2 (by decide) nn_338 rfl dX0_verdict_80 ?_
        refine lv_iload_n hx hb dX0_verdict_83 rfl (lv_at hl 3 rfl) ?_
        obtain ⟨hin24, h⟩ := gdS h
        refine r_iald C w 5 (KA 2 a1.toNatClampNeg) ge_X0_5 rfl hin24 dX0_verdict_84 ?_
        refine lv_iload hx hb dX0_verdict_85 (lv_at hl 0 rfl) ?_
        refine lv_iand hx hb dX0_verdict_87 ?_
        refine lv_if_eq (tgt := 94) hx hb dX0_verdict_88 (by decide) (fun c25 => ?_) (fun c25 => ?_)
        · rw [if_pos c25] at h
          refine lv_aload_n hx hb dX0_verdict_94 rfl (lv_at hl 2 rfl) ?_
          refine r_get C w 0 0 0 (.ref (ad 2)) ge_X0_0 rfl inX0 (by decide) tt_418 rfl dX0_verdict_95 ?_
          refine r_getN C w 2 2 3 (.ref (ad 6)) ge_X0_2 rfl inX2 (by decide) nn_341 rfl dX0_verdict_98 ?_
          refine lv_iload_n hx hb dX0_verdict_101 rfl (lv_at hl 3 rfl) ?_
          obtain ⟨hin26, h⟩ := gdS h
          refine r_iald C w 6 (KA 3 a1.toNatClampNeg) ge_X0_6 rfl hin26 dX0_verdict_102 ?_
          refine lv_iload hx hb dX0_verdict_103 (lv_at hl 1 rfl) ?_
          refine lv_iand hx hb dX0_verdict_105 ?_
          refine lv_iload hx hb dX0_verdict_106 (lv_at hl 0 rfl) ?_
          refine lv_iconst (v := (-1)) hx hb dX0_verdict_108 (by decide) ?_
          refine lv_ixor hx hb dX0_verdict_109 ?_
          refine lv_iand hx hb dX0_verdict_110 ?_
          refine lv_if_eq (tgt := 117) hx hb dX0_verdict_111 (by decide) (fun c27 => ?_) (fun c27 => ?_)
          · rw [if_pos c27] at h
            refine lv_iload hx hb dX0_verdict_117 (lv_at hl 0 rfl) ?_
            obtain ⟨x28, hx28, h⟩ := bdS h
            have w0 : WD G _ ([] ++ ([] ++ (w_X0 G ad D KI KA RL))) s _ _ := w
            refine cl_i (wc' := []) w0 (run_S (As := [.int x15]) (rest := []) C w0 (c_J6_bitCount_0f7a4 l G  _ x15 x28 hx28) mt_J6_bitCount_0f7a4 tt_450 rfl rfl ⟨Nat.le_of_ble_eq_true rfl, Nat.le_of_ble_eq_true rfl⟩ hl.1 (Nat.le_of_ble_eq_true rfl) dX0_verdict_119 ⟨Nat.le_of_ble_eq_true rfl, Nat.le_of_ble_eq_true rfl⟩) (fun H locs w => ?_)
            have w : WD G _ (w_X0 G ad D KI KA RL) s H locs := w
            refine lv_aload_n hx hb dX0_verdict_122 rfl (lv_at hl 2 rfl) ?_
            refine r_get C w 0 0 0 (.ref (ad 2)) ge_X0_0 rfl inX0 (by decide) tt_418 rfl dX0_verdict_123 ?_
            refine r_getN C w 2 2 5 (.int (KI 5)) ge_X0_2 rfl inX2 (by decide) nn_347 rfl dX0_verdict_126 ?_
            refine lv_icmp_lt (tgt := 135) hx hb dX0_verdict_129 (by decide) (fun c29 => ?_) (fun c29 => ?_)
            · rw [if_pos c29] at h
              refine lv_aload_n hx hb dX0_verdict_135 rfl (lv_at hl 2 rfl) ?_
              refine lv_iload_n hx hb dX0_verdict_136 rfl (lv_at hl 3 rfl) ?_
              refine lv_iload_n hx hb dX0_verdict_137 rfl (lv_at hl 4 rfl) ?_
              refine lv_aload_n hx hb dX0_verdict_138 rfl (lv_at hl 5 rfl) ?_
              obtain ⟨x30, hx30, h⟩ := bdS h
              have w0 := w.z
              refine cl_i (wc' := (w_X0 G ad x30.2.1 x30.2.2.1 x30.2.2.2.1 x30.2.2.2.2)) w0 (run_V (As := [.int a1, .int a2, .ref (ad 7)]) (rest := []) C w0 (c_X0_wouldStick l G ad  _ N D KI KA RL a1 a2 x30.1 x30.2.1 x30.2.2.1 x30.2.2.2.1 x30.2.2.2.2 hx30) mt_X0_wouldStick tt_456 0 rfl rfl rfl rfl ⟨Nat.le_of_ble_eq_true rfl, Nat.le_of_ble_eq_true rfl⟩ hl.1 (Nat.le_of_ble_eq_true rfl) dX0_verdict_139 ⟨Nat.le_of_ble_eq_true rfl, Nat.le_of_ble_eq_true rfl⟩) (fun H locs w => ?_)
              have w := w.uz
              refine lv_if_eq (tgt := 150) hx hb dX0_verdict_142 (by decide) (fun c31 => ?_) (fun c31 => ?_)
              · rw [if_pos c31] at h
                refine lv_iconst (v := 0) hx hb dX0_verdict_150 (by decide) ?_
                cases h
                exact ret_I C w rfl rfl dX0_verdict_151
              · rw [if_neg c31] at h
                refine lv_bipush (v := (-22)) hx hb dX0_verdict_145 (by decide) ?_
                refine lv_goto (tgt := 151) hx hb dX0_verdict_147 (by decide) ?_
                cases h
                exact ret_I C w rfl rfl dX0_verdict_151
            · rw [if_neg c29] at h
              refine lv_bipush (v := (-21)) hx hb dX0_verdict_132 (by decide) ?_
              cases h
              exact ret_I C w rfl rfl dX0_verdict_134
          · rw [if_neg c27] at h
            refine lv_bipush (v := (-20)) hx hb dX0_verdict_114 (by decide) ?_
            cases h
            exact ret_I C w rfl rfl dX0_verdict_116
        · rw [if_neg c25] at h
          refine lv_bipush (v := (-19)) hx hb dX0_verdict_91 (by decide) ?_
          cases h
          exact ret_I C w rfl rfl dX0_verdict_93
      · rw [if_pos c23] at h
        refine lv_bipush (v := (-18)) hx hb dX0_verdict_73 (by decide) ?_
        cases h
        exact ret_I C w rfl rfl dX0_verdict_75
    · rw [if_neg c19] at h
      refine lv_bipush (v := (-17)) hx hb dX0_verdict_52 (by decide) ?_
      cases h
      exact ret_I C w rfl rfl dX0_verdict_54
  · rw [if_neg c17] at h
    refine lv_bipush (v := (-16)) hx hb dX0_verdict_32 (by decide) ?_
    cases h
    exact ret_I C w rfl rfl dX0_verdict_34
