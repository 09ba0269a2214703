set_option maxHeartbeats 4000000 in
set_option maxRecDepth 100000 in
theorem c_X2_taskBits (l : Launch) (G : GG) (ad : Nat → Nat) (sz : Nat) (I : Nat → Int32) (A : Nat → Nat → Int32) (r : Int32) (h : f_X2_taskBits I A = some r) : CtI l yX2_taskBits cX2_taskBits 1 (some .int) { frames := 0, cells := 0, slots := 0, locals := 0 } G [.ref (ad 0)] (w_X2 G ad I A) (w_X2 G ad I A) sz r := by
  refine ct_of (by decide) (Nat.le_of_ble_eq_true rfl) (fun p e s m below meth c ls C w hsz hl => ?_)
  have hx := C.1
  have hb := C.2.1
  have hl : lv_has ls 1 [(0, .ref (ad 0))] := hl
  unfold f_X2_taskBits at h
  refine lv_iconst (v := 1) hx hb dX2_taskBits_0 (by decide) ?_
  refine lv_aload_n hx hb dX2_taskBits_1 rfl (lv_at hl 0 rfl) ?_
  refine r_get C w 0 2 4 (.int (I 4)) ge_X2_0 rfl inX2 (by decide) tt_343 rfl dX2_taskBits_2 ?_
  refine lv_ishl hx hb dX2_taskBits_5 ?_
  refine lv_iconst (v := 1) hx hb dX2_taskBits_6 (by decide) ?_
  refine lv_isub hx hb dX2_taskBits_7 ?_
  cases h
  exact ret_I C w rfl rfl dX2_taskBits_8
set_option maxHeartbeats 4000000 in
set_option maxRecDepth 100000 in
theorem w_X2_tasksWithin_4 {p : Program} {l : Launch} {e : Env} {s : State} {m : MethodId} {args : Array Value} {below : List Frame} {meth : Method} {c : Code} {FA : Nat → Prop} {G : GG} {ad : Nat → Nat} {r : Int32} {I : Nat → Int32} {A : Nat → Nat → Int32} (C : CX p m meth c s args yX2_tasksWithin cX2_tasksWithin 4 (some .int)) (N : Nat) : ∀ n : Nat, ∀ (v1 : Int32) (v2 : Int32) (v3 : Int32), f_X2_tasksWithin_4 N I A n v1 v2 v3 = some r → ∀ (H : Heap) (locs : List Loc), WD G FA (w_X2 G ad I A) s H locs → ∀ ls : Array Slot, lv_has ls 4 [(0, .ref (ad 0)), (1, .int v1), (2, .int v2), (3, .int v3)] → W p l e { frames := 1, cells := 0, slots := 0, locals := 21 } s m args below meth c H locs 0 0 (EnI below G FA args s (w_X2 G ad I A) r) (F0 m 4 ls []) := by
  have hx := C.1
  have hb := C.2.1
  intro n
  induction n with
  | zero =>
    intro v1 v2 v3 h
    cases h
  | succ n ih =>
    intro v1 v2 v3 h H locs w ls hl
    rw [f_X2_tasksWithin_4] at h
    refine lv_iload_n hx hb dX2_tasksWithin_4 rfl (lv_at hl 3 rfl) ?_
    refine lv_aload_n hx hb dX2_tasksWithin_5 rfl (lv_at hl 0 rfl) ?_
    refine r_get C w 0 2 4 (.int (I 4)) ge_X2_0 rfl inX2 (by decide) tt_343 rfl dX2_tasksWithin_6 ?_
    refine lv_icmp_ge (tgt := 37) hx hb dX2_tasksWithin_9 (by decide) (fun c3 => ?_) (fun c3 => ?_)
    · rw [if_pos c3] at h
      refine lv_iload_n hx hb dX2_tasksWithin_37 rfl (lv_at hl 2 rfl) ?_
      cases h
      exact ret_I C w rfl rfl dX2_tasksWithin_38
    · rw [if_neg c3] at h
      refine lv_iload_n hx hb dX2_tasksWithin_12 rfl (lv_at hl 1 rfl) ?_
      refine lv_aload_n hx hb dX2_tasksWithin_13 rfl (lv_at hl 0 rfl) ?_
      refine r_get C w 0 2 0 (.ref (ad 1)) ge_X2_0 rfl inX2 (by decide) tt_333 rfl dX2_tasksWithin_14 ?_
      refine lv_iload_n hx hb dX2_tasksWithin_17 rfl (lv_at hl 3 rfl) ?_
      obtain ⟨hin4, h⟩ := gdS h
      refine r_iald C w 1 (A 0 v3.toNatClampNeg) ge_X2_1 rfl hin4 dX2_tasksWithin_18 ?_
      obtain ⟨x5, hx5, h⟩ := bdS h
      have w0 : WD G _ ([] ++ ([] ++ (w_X2 G ad I A))) s _ _ := w
      refine cl_i (wc' := []) w0 (run_SN (As := [.int v1, .int (A 0 v3.toNatClampNeg)]) (rest := []) C w0 (c_X5_hasBit l G  _ v1 (A 0 v3.toNatClampNeg) x5 hx5) mt_X5_hasBit nn_468 rfl rfl ⟨Nat.le_of_ble_eq_true rfl, Nat.le_of_ble_eq_true rfl⟩ hl.1 (Nat.le_of_ble_eq_true rfl) dX2_tasksWithin_19 ⟨Nat.le_of_ble_eq_true rfl, Nat.le_of_ble_eq_true rfl⟩) (fun H locs w => ?_)
      have w : WD G _ (w_X2 G ad I A) s H locs := w
      refine lv_if_eq (tgt := 31) hx hb dX2_tasksWithin_22 (by decide) (fun c6 => ?_) (fun c6 => ?_)
      · rw [if_pos c6] at h
        refine lv_iinc (v := v3 + 1) (lv' := [(3, .int (v3 + 1)), (0, .ref (ad 0)), (1, .int v1), (2, .int v2)]) hx hb dX2_tasksWithin_31 hl (k := 3) rfl rfl (by decide) rfl (fun ls hl => ?_)
        refine lv_goto (tgt := 4) hx hb dX2_tasksWithin_34 (by decide) ?_
        exact ih v1 v2 (v3 + 1) h _ _ w _ (lv_sub hl [1, 2, 3, 0] rfl)
      · rw [if_neg c6] at h
        refine lv_iload_n hx hb dX2_tasksWithin_25 rfl (lv_at hl 2 rfl) ?_
        refine lv_iconst (v := 1) hx hb dX2_tasksWithin_26 (by decide) ?_
        refine lv_iload_n hx hb dX2_tasksWithin_27 rfl (lv_at hl 3 rfl) ?_
        refine lv_ishl hx hb dX2_tasksWithin_28 ?_
        refine lv_ior hx hb dX2_tasksWithin_29 ?_
        refine lv_istore_n (lv' := [(2, .int (v2 ||| ((1 : Int32) <<< (v3 &&& 31)))), (0, .ref (ad 0)), (1, .int v1), (3, .int v3)]) hx hb dX2_tasksWithin_30 rfl hl (by decide) rfl (fun ls hl => ?_)
        refine lv_iinc (v := v3 + 1) (lv' := [(3, .int (v3 + 1)), (2, .int (v2 ||| ((1 : Int32) <<< (v3 &&& 31)))), (0, .ref (ad 0)), (1, .int v1)]) hx hb dX2_tasksWithin_31 hl (k := 3) rfl rfl (by decide) rfl (fun ls hl => ?_)
        refine lv_goto (tgt := 4) hx hb dX2_tasksWithin_34 (by decide) ?_
        exact ih v1 (v2 ||| ((1 : Int32) <<< (v3 &&& 31))) (v3 + 1) h _ _ w _ (lv_sub hl [2, 3, 1, 0] rfl)
set_option maxHeartbeats 4000000 in
set_option maxRecDepth 100000 in
theorem c_X2_tasksWithin (l : Launch) (G : GG) (ad : Nat → Nat) (sz : Nat) (N : Nat) (I : Nat → Int32) (A : Nat → Nat → Int32) (a1 : Int32) (r : Int32) (h : f_X2_tasksWithin N I A a1 = some r) : CtI l yX2_tasksWithin cX2_tasksWithin 4 (some .int) { frames := 1, cells := 0, slots := 0, locals := 21 } G [.ref (ad 0), .int a1] (w_X2 G ad I A) (w_X2 G ad I A) sz r := by
  refine ct_of (by decide) (Nat.le_of_ble_eq_true rfl) (fun p e s m below meth c ls C w hsz hl => ?_)
  have hx := C.1
  have hb := C.2.1
  have hl : lv_has ls 4 [(0, .ref (ad 0)), (1, .int a1)] := hl
  unfold f_X2_tasksWithin at h
  refine lv_iconst (v := 0) hx hb dX2_tasksWithin_0 (by decide) ?_
  refine lv_istore_n (lv' := [(2, .int 0), (0, .ref (ad 0)), (1, .int a1)]) hx hb dX2_tasksWithin_1 rfl hl (by decide) rfl (fun ls hl => ?_)
  refine lv_iconst (v := 0) hx hb dX2_tasksWithin_2 (by decide) ?_
  refine lv_istore_n (lv' := [(3, .int 0), (2, .int 0), (0, .ref (ad 0)), (1, .int a1)]) hx hb dX2_tasksWithin_3 rfl hl (by decide) rfl (fun ls hl => ?_)
  exact w_X2_tasksWithin_4 C N N a1 0 0 h _ _ w _ (lv_sub hl [2, 3, 1, 0] rfl)
set_option maxHeartbeats 4000000 in
set_option maxRecDepth 100000 in
theorem w_X2_allows_15 {p : Program} {l : Launch} {e : Env} {s : State} {m : MethodId} {args : Array Value} {below : List Frame} {meth : Method} {c : Code} {FA : Nat → Prop} {G : GG} {ad : Nat → Nat} {r : Int32} {I : Nat → Int32} {A : Nat → Nat → Int32} (C : CX p m meth c s args yX2_allows cX2_allows 3 (some .boolean)) (N : Nat) : ∀ n : Nat, ∀ (v1 : Int32) (v2 : Int32), f_X2_allows_15 N I A n v1 v2 = some r → ∀ (H : Heap) (locs : List Loc), WD G FA (w_X2 G ad I A) s H locs → ∀ ls : Array Slot, lv_has ls 3 [(0, .ref (ad 0)), (1, .int v1), (2, .int v2)] → W p l e { frames := 1, cells := 0, slots := 0, locals := 21 } s m args below meth c H locs 0 0 (EnI below G FA args s (w_X2 G ad I A) r) (F0 m 15 ls []) := by
  have hx := C.1
  have hb := C.2.1
  intro n
  induction n with
  | zero =>
    intro v1 v2 h
    cases h
  | succ n ih =>
    intro v1 v2 h H locs w ls hl
    rw [f_X2_allows_15] at h
    refine lv_iload_n hx hb dX2_allows_15 rfl (lv_at hl 2 rfl) ?_
    refine lv_aload_n hx hb dX2_allows_16 rfl (lv_at hl 0 rfl) ?_
    refine r_get C w 0 2 4 (.int (I 4)) ge_X2_0 rfl inX2 (by decide) tt_343 rfl dX2_allows_17 ?_
    refine lv_icmp_ge (tgt := 63) hx hb dX2_allows_20 (by decide) (fun c5 => ?_) (fun c5 => ?_)
    · rw [if_pos c5] at h
      refine lv_iconst (v := 1) hx hb dX2_allows_63 (by decide) ?_
      cases h
      exact ret_Z C w (Or.inr rfl) rfl rfl dX2_allows_64
    · rw [if_neg c5] at h
      refine lv_iload_n hx hb dX2_allows_23 rfl (lv_at hl 1 rfl) ?_
      refine lv_iload_n hx hb dX2_allows_24 rfl (lv_at hl 2 rfl) ?_
      obtain ⟨x6, hx6, h⟩ := bdS h
      have w0 : WD G _ ([] ++ ([] ++ (w_X2 G ad I A))) s _ _ := w
      refine cl_i (wc' := []) w0 (run_SN (As := [.int v1, .int v2]) (rest := []) C w0 (c_X5_hasBit l G  _ v1 v2 x6 hx6) mt_X5_hasBit nn_468 rfl rfl ⟨Nat.le_of_ble_eq_true rfl, Nat.le_of_ble_eq_true rfl⟩ hl.1 (Nat.le_of_ble_eq_true rfl) dX2_allows_25 ⟨Nat.le_of_ble_eq_true rfl, Nat.le_of_ble_eq_true rfl⟩) (fun H locs w => ?_)
      have w : WD G _ (w_X2 G ad I A) s H locs := w
      refine lv_if_eq (tgt := 57) hx hb dX2_allows_28 (by decide) (fun c7 => ?_) (fun c7 => ?_)
      · rw [if_pos c7] at h
        refine lv_iinc (v := v2 + 1) (lv' := [(2, .int (v2 + 1)), (0, .ref (ad 0)), (1, .int v1)]) hx hb dX2_allows_57 hl (k := 2) rfl rfl (by decide) rfl (fun ls hl => ?_)
        refine lv_goto (tgt := 15) hx hb dX2_allows_60 (by decide) ?_
        exact ih v1 (v2 + 1) h _ _ w _ (lv_sub hl [1, 2, 0] rfl)
      · rw [if_neg c7] at h
        refine lv_aload_n hx hb dX2_allows_31 rfl (lv_at hl 0 rfl) ?_
        refine r_get C w 0 2 2 (.ref (ad 3)) ge_X2_0 rfl inX2 (by decide) tt_337 rfl dX2_allows_32 ?_
        refine lv_iload_n hx hb dX2_allows_35 rfl (lv_at hl 2 rfl) ?_
        obtain ⟨hin8, h⟩ := gdS h
        refine r_iald C w 3 (A 2 v2.toNatClampNeg) ge_X2_3 rfl hin8 dX2_allows_36 ?_
        refine lv_iload_n hx hb dX2_allows_37 rfl (lv_at hl 1 rfl) ?_
        refine lv_iand hx hb dX2_allows_38 ?_
        refine lv_if_ne (tgt := 55) hx hb dX2_allows_39 (by decide) (fun c9 => ?_) (fun c9 => ?_)
        · rw [if_neg c9] at h
          refine lv_iconst (v := 0) hx hb dX2_allows_55 (by decide) ?_
          cases h
          exact ret_Z C w (Or.inl rfl) rfl rfl dX2_allows_56
        · rw [if_pos c9] at h
          refine lv_aload_n hx hb dX2_allows_42 rfl (lv_at hl 0 rfl) ?_
          refine r_get C w 0 2 3 (.ref (ad 4)) ge_X2_0 rfl inX2 (by decide) tt_340 rfl dX2_allows_43 ?_
          refine lv_iload_n hx hb dX2_allows_46 rfl (lv_at hl 2 rfl) ?_
          obtain ⟨hin10, h⟩ := gdS h
          refine r_iald C w 4 (A 3 v2.toNatClampNeg) ge_X2_4 rfl hin10 dX2_allows_47 ?_
          refine lv_iload_n hx hb dX2_allows_48 rfl (lv_at hl 1 rfl) ?_
          refine lv_iconst (v := (-1)) hx hb dX2_allows_49 (by decide) ?_
          refine lv_ixor hx hb dX2_allows_50 ?_
          refine lv_iand hx hb dX2_allows_51 ?_
          refine lv_if_eq (tgt := 57) hx hb dX2_allows_52 (by decide) (fun c11 => ?_) (fun c11 => ?_)
          · rw [if_pos c11] at h
            refine lv_iinc (v := v2 + 1) (lv' := [(2, .int (v2 + 1)), (0, .ref (ad 0)), (1, .int v1)]) hx hb dX2_allows_57 hl (k := 2) rfl rfl (by decide) rfl (fun ls hl => ?_)
            refine lv_goto (tgt := 15) hx hb dX2_allows_60 (by decide) ?_
            exact ih v1 (v2 + 1) h _ _ w _ (lv_sub hl [1, 2, 0] rfl)
          · rw [if_neg c11] at h
            refine lv_iconst (v := 0) hx hb dX2_allows_55 (by decide) ?_
            cases h
            exact ret_Z C w (Or.inl rfl) rfl rfl dX2_allows_56
set_option maxHeartbeats 4000000 in
set_option maxRecDepth 100000 in
theorem c_X2_allows (l : Launch) (G : GG) (ad : Nat → Nat) (sz : Nat) (N : Nat) (I : Nat → Int32) (A : Nat → Nat → Int32) (a1 : Int32) (r : Int32) (h : f_X2_allows N I A a1 = some r) : CtI l yX2_allows cX2_allows 3 (some .boolean) { frames := 1, cells := 0, slots := 0, locals := 21 } G [.ref (ad 0), .int a1] (w_X2 G ad I A) (w_X2 G ad I A) sz r := by
  refine ct_of (by decide) (Nat.le_of_ble_eq_true rfl) (fun p e s m below meth c ls C w hsz hl => ?_)
  have hx := C.1
  have hb := C.2.1
  have hl : lv_has ls 3 [(0, .ref (ad 0)), (1, .int a1)] := hl
  unfold f_X2_allows at h
  refine lv_iload_n hx hb dX2_allows_0 rfl (lv_at hl 1 rfl) ?_
  obtain ⟨x12, hx12, h⟩ := bdS h
  have w0 : WD G _ ([] ++ ([] ++ (w_X2 G ad I A))) s _ _ := w
  refine cl_i (wc' := []) w0 (run_S (As := [.int a1]) (rest := []) C w0 (c_J6_bitCount_0f7a4 l G  _ a1 x12 hx12) mt_J6_bitCount_0f7a4 tt_477 rfl rfl ⟨Nat.le_of_ble_eq_true rfl, Nat.le_of_ble_eq_true rfl⟩ hl.1 (Nat.le_of_ble_eq_true rfl) dX2_allows_1 ⟨Nat.le_of_ble_eq_true rfl, Nat.le_of_ble_eq_true rfl⟩) (fun H locs w => ?_)
  have w : WD G _ (w_X2 G ad I A) s H locs := w
  refine lv_aload_n hx hb dX2_allows_4 rfl (lv_at hl 0 rfl) ?_
  refine r_get C w 0 2 5 (.int (I 5)) ge_X2_0 rfl inX2 (by decide) tt_346 rfl dX2_allows_5 ?_
  refine lv_icmp_le (tgt := 13) hx hb dX2_allows_8 (by decide) (fun c13 => ?_) (fun c13 => ?_)
  · rw [if_pos c13] at h
    refine lv_iconst (v := 0) hx hb dX2_allows_13 (by decide) ?_
    refine lv_istore_n (lv' := [(2, .int 0), (0, .ref (ad 0)), (1, .int a1)]) hx hb dX2_allows_14 rfl hl (by decide) rfl (fun ls hl => ?_)
    exact w_X2_allows_15 C N N a1 0 h _ _ w _ (lv_sub hl [1, 2, 0] rfl)
  · rw [if_neg c13] at h
    refine lv_iconst (v := 0) hx hb dX2_allows_11 (by decide) ?_
    cases h
    exact ret_Z C w (Or.inl rfl) rfl rfl dX2_allows_12
set_option maxHeartbeats 4000000 in
set_option maxRecDepth 100000 in
theorem c_X1_has (l : Launch) (G : GG) (ad : Nat → Nat) (sz : Nat) (I : Nat → Int32) (A : Nat → Nat → Int32) (a1 : Int32) (r : Int32) (h : f_X1_has I A a1 = some r) : CtI l yX1_has cX1_has 2 (some .boolean) { frames := 1, cells := 0, slots := 0, locals := 21 } G [.ref (ad 0), .int a1] (w_X1 G ad I A) (w_X1 G ad I A) sz r := by
  refine ct_of (by decide) (Nat.le_of_ble_eq_true rfl) (fun p e s m below meth c ls C w hsz hl => ?_)
  have hx := C.1
  have hb := C.2.1
  have hl : lv_has ls 2 [(0, .ref (ad 0)), (1, .int a1)] := hl
  unfold f_X1_has at h
  refine lv_iload_n hx hb dX1_has_0 rfl (lv_at hl 1 rfl) ?_
  refine lv_aload_n hx hb dX1_has_1 rfl (lv_at hl 0 rfl) ?_
  refine r_get C w 0 1 4 (.int (I 4)) ge_X1_0 rfl inX1 (by decide) tt_118 rfl dX1_has_2 ?_
  obtain ⟨x2, hx2, h⟩ := bdS h
  have w0 : WD G _ ([] ++ ([] ++ (w_X1 G ad I A))) s _ _ := w
  refine cl_i (wc' := []) w0 (run_SN (As := [.int a1, .int (I 4)]) (rest := []) C w0 (c_X5_isBelow l G  _ a1 (I 4) x2 hx2) mt_X5_isBelow nn_318 rfl rfl ⟨Nat.le_of_ble_eq_true rfl, Nat.le_of_ble_eq_true rfl⟩ hl.1 (Nat.le_of_ble_eq_true rfl) dX1_has_5 ⟨Nat.le_of_ble_eq_true rfl, Nat.le_of_ble_eq_true rfl⟩) (fun H locs w => ?_)
  have w : WD G _ (w_X1 G ad I A) s H locs := w
  obtain ⟨hbz, h⟩ := gpS h
  cases h
  exact ret_Z C w hbz rfl rfl dX1_has_8
set_option maxHeartbeats 4000000 in
set_option maxRecDepth 100000 in
theorem c_X1_isFull (l : Launch) (G : GG) (ad : Nat → Nat) (sz : Nat) (I : Nat → Int32) (A : Nat → Nat → Int32) (r : Int32) (h : f_X1_isFull I A = some r) : CtI l yX1_isFull cX1_isFull 1 (some .boolean) { frames := 0, cells := 0, slots := 0, locals := 0 } G [.ref (ad 0)] (w_X1 G ad I A) (w_X1 G ad I A) sz r := by
  refine ct_of (by decide) (Nat.le_of_ble_eq_true rfl) (fun p e s m below meth c ls C w hsz hl => ?_)
  have hx := C.1
  have hb := C.2.1
  have hl : lv_has ls 1 [(0, .ref (ad 0))] := hl
  unfold f_X1_isFull at h
  refine lv_aload_n hx hb dX1_isFull_0 rfl (lv_at hl 0 rfl) ?_
  refine r_get C w 0 1 4 (.int (I 4)) ge_X1_0 rfl inX1 (by decide) tt_118 rfl dX1_isFull_1 ?_
  refine lv_bipush (v := (40)) hx hb dX1_isFull_4 (by decide) ?_
  refine lv_icmp_lt (tgt := 13) hx hb dX1_isFull_6 (by decide) (fun c1 => ?_) (fun c1 => ?_)
  · rw [if_pos c1] at h
    refine lv_iconst (v := 0) hx hb dX1_isFull_13 (by decide) ?_
    cases h
    exact ret_Z C w (Or.inl rfl) rfl rfl dX1_isFull_14
  · rw [if_neg c1] at h
    refine lv_iconst (v := 1) hx hb dX1_isFull_9 (by decide) ?_
    refine lv_goto (tgt := 14) hx hb dX1_isFull_10 (by decide) ?_
    cases h
    exact ret_Z C w (Or.inr rfl) rfl rfl dX1_isFull_14
set_option maxHeartbeats 4000000 in
set_option maxRecDepth 100000 in
theorem c_X1_addGlass (l : Launch) (G : GG) (ad : Nat → Nat) (sz : Nat) (I : Nat → Int32) (A : Nat → Nat → Int32) (a1 : Int32) (a2 : Int32) (a3 : Int32) (r : Int32) (I' : Nat → Int32) (A' : Nat → Nat → Int32) (h : f_X1_addGlass I A a1 a2 a3 = some (r, I', A')) : CtI l yX1_addGlass cX1_addGlass 4 (some .int) { frames := 0, cells := 0, slots := 0, locals := 0 } G [.ref (ad 0), .int a1, .int a2, .int a3] (w_X1 G ad I A) (w_X1 G ad I' A') sz r := by
  refine ct_of (by decide) (Nat.le_of_ble_eq_true rfl) (fun p e s m below meth c ls C w hsz hl => ?_)
  have hx := C.1
  have hb := C.2.1
  have hl : lv_has ls 4 [(0, .ref (ad 0)), (1, .int a1), (2, .int a2), (3, .int a3)] := hl
  unfold f_X1_addGlass at h
  refine lv_aload_n hx hb dX1_addGlass_0 rfl (lv_at hl 0 rfl) ?_
  refine r_get C w 0 1 0 (.ref (ad 1)) ge_X1_0 rfl inX1 (by decide) tt_110 rfl dX1_addGlass_1 ?_
  refine lv_aload_n hx hb dX1_addGlass_4 rfl (lv_at hl 0 rfl) ?_
  refine r_get C w 0 1 4 (.int (I 4)) ge_X1_0 rfl inX1 (by decide) tt_118 rfl dX1_addGlass_5 ?_
  refine lv_iload_n hx hb dX1_addGlass_8 rfl (lv_at hl 1 rfl) ?_
  obtain ⟨hin5, h⟩ := gdS h
  refine r_iast C w 1 (w_X1 G ad I (aS A 0 (I 4).toNatClampNeg a1)) ge_X1_1 hin5 st_X1_1 dX1_addGlass_9 (fun H locs w => ?_)
  refine lv_aload_n hx hb dX1_addGlass_10 rfl (lv_at hl 0 rfl) ?_
  refine r_get C w 0 1 1 (.ref (ad 2)) ge_X1_0 rfl inX1 (by decide) tt_112 rfl dX1_addGlass_11 ?_
  refine lv_aload_n hx hb dX1_addGlass_14 rfl (lv_at hl 0 rfl) ?_
  refine r_get C w 0 1 4 (.int (I 4)) ge_X1_0 rfl inX1 (by decide) tt_118 rfl dX1_addGlass_15 ?_
  refine lv_iload_n hx hb dX1_addGlass_18 rfl (lv_at hl 2 rfl) ?_
  obtain ⟨hin6, h⟩ := gdS h
  refine r_iast C w 2 (w_X1 G ad I (aS (aS A 0 (I 4).toNatClampNeg a1) 1 (I 4).toNatClampNeg a2)) ge_X1_2 hin6 st_X1_2 dX1_addGlass_19 (fun H locs w => ?_)
  refine lv_aload_n hx hb dX1_addGlass_20 rfl (lv_at hl 0 rfl) ?_
  refine r_get C w 0 1 2 (.ref (ad 3)) ge_X1_0 rfl inX1 (by decide) tt_114 rfl dX1_addGlass_21 ?_
  refine lv_aload_n hx hb dX1_addGlass_24 rfl (lv_at hl 0 rfl) ?_
  refine r_get C w 0 1 4 (.int (I 4)) ge_X1_0 rfl inX1 (by decide) tt_118 rfl dX1_addGlass_25 ?_
  refine lv_iload_n hx hb dX1_addGlass_28 rfl (lv_at hl 3 rfl) ?_
  obtain ⟨hin7, h⟩ := gdS h
  refine r_iast C w 3 (w_X1 G ad I (aS (aS (aS A 0 (I 4).toNatClampNeg a1) 1 (I 4).toNatClampNeg a2) 2 (I 4).toNatClampNeg a3)) ge_X1_3 hin7 st_X1_3 dX1_addGlass_29 (fun H locs w => ?_)
  refine lv_aload_n hx hb dX1_addGlass_30 rfl (lv_at hl 0 rfl) ?_
  refine r_get C w 0 1 3 (.ref (ad 4)) ge_X1_0 rfl inX1 (by decide) tt_116 rfl dX1_addGlass_31 ?_
  refine lv_aload_n hx hb dX1_addGlass_34 rfl (lv_at hl 0 rfl) ?_
  refine r_get C w 0 1 4 (.int (I 4)) ge_X1_0 rfl inX1 (by decide) tt_118 rfl dX1_addGlass_35 ?_
  refine lv_iconst (v := 1) hx hb dX1_addGlass_38 (by decide) ?_
  obtain ⟨hin8, h⟩ := gdS h
  refine r_zast C w 4 (w_X1 G ad I (aS (aS (aS (aS A 0 (I 4).toNatClampNeg a1) 1 (I 4).toNatClampNeg a2) 2 (I 4).toNatClampNeg a3) 3 (I 4).toNatClampNeg 1)) ge_X1_4 (by decide) hin8 st_X1_4 dX1_addGlass_39 (fun H locs w => ?_)
  refine lv_aload_n hx hb dX1_addGlass_40 rfl (lv_at hl 0 rfl) ?_
  refine lv_dup hx hb dX1_addGlass_41 rfl ?_
  refine r_get C w 0 1 4 (.int (I 4)) ge_X1_0 rfl inX1 (by decide) tt_118 rfl dX1_addGlass_42 ?_
  refine lv_iconst (v := 1) hx hb dX1_addGlass_45 (by decide) ?_
  refine lv_iadd hx hb dX1_addGlass_46 ?_
  refine r_put C w 0 1 4 (w_X1 G ad (upd I 4 ((I 4) + 1)) (aS (aS (aS (aS A 0 (I 4).toNatClampNeg a1) 1 (I 4).toNatClampNeg a2) 2 (I 4).toNatClampNeg a3) 3 (I 4).toNatClampNeg 1)) tyX1_ok nmX1 ge_X1_0 rfl inX1 (by decide) tt_118 rfl rfl rfl (Nat.le_of_ble_eq_true rfl) st_X1_0_4 dX1_addGlass_47 (fun H locs w => ?_)
  refine lv_aload_n hx hb dX1_addGlass_50 rfl (lv_at hl 0 rfl) ?_
  refine r_get C w 0 1 4 (.int ((upd I 4 ((I 4) + 1)) 4)) ge_X1_0 rfl inX1 (by decide) tt_118 rfl dX1_addGlass_51 ?_
  refine lv_iconst (v := 1) hx hb dX1_addGlass_54 (by decide) ?_
  refine lv_isub hx hb dX1_addGlass_55 ?_
  cases h
  exact ret_I C w rfl rfl dX1_addGlass_56
set_option maxHeartbeats 4000000 in
set_option maxRecDepth 100000 in
theorem c_X1_runs (l : Launch) (G : GG) (ad : Nat → Nat) (sz : Nat) (I : Nat → Int32) (A : Nat → Nat → Int32) (a1 : Int32) (a2 : Int32) (r : Int32) (h : f_X1_runs I A a1 a2 = some r) : CtI l yX1_runs cX1_runs 3 (some .boolean) { frames := 0, cells := 0, slots := 0, locals := 0 } G [.ref (ad 0), .int a1, .int a2] (w_X1 G ad I A) (w_X1 G ad I A) sz r := by
  refine ct_of (by decide) (Nat.le_of_ble_eq_true rfl) (fun p e s m below meth c ls C w hsz hl => ?_)
  have hx := C.1
  have hb := C.2.1
  have hl : lv_has ls 3 [(0, .ref (ad 0)), (1, .int a1), (2, .int a2)] := hl
  unfold f_X1_runs at h
  refine lv_iload_n hx hb dX1_runs_0 rfl (lv_at hl 2 rfl) ?_
  refine lv_aload_n hx hb dX1_runs_1 rfl (lv_at hl 0 rfl) ?_
  refine r_get C w 0 1 2 (.ref (ad 3)) ge_X1_0 rfl inX1 (by decide) tt_114 rfl dX1_runs_2 ?_
  refine lv_iload_n hx hb dX1_runs_5 rfl (lv_at hl 1 rfl) ?_
  obtain ⟨hin2, h⟩ := gdS h
  refine r_iald C w 3 (A 2 a1.toNatClampNeg) ge_X1_3 rfl hin2 dX1_runs_6 ?_
  refine lv_icmp_ge (tgt := 14) hx hb dX1_runs_7 (by decide) (fun c3 => ?_) (fun c3 => ?_)
  · rw [if_pos c3] at h
    refine lv_iconst (v := 0) hx hb dX1_runs_14 (by decide) ?_
    cases h
    exact ret_Z C w (Or.inl rfl) rfl rfl dX1_runs_15
  · rw [if_neg c3] at h
    refine lv_iconst (v := 1) hx hb dX1_runs_10 (by decide) ?_
    refine lv_goto (tgt := 15) hx hb dX1_runs_11 (by decide) ?_
    cases h
    exact ret_Z C w (Or.inr rfl) rfl rfl dX1_runs_15
set_option maxHeartbeats 4000000 in
set_option maxRecDepth 100000 in
theorem c_X1_due (l : Launch) (G : GG) (ad : Nat → Nat) (sz : Nat) (I : Nat → Int32) (A : Nat → Nat → Int32) (a1 : Int32) (r : Int32) (h : f_X1_due I A a1 = some r) : CtI l yX1_due cX1_due 2 (some .int) { frames := 0, cells := 0, slots := 0, locals := 0 } G [.ref (ad 0), .int a1] (w_X1 G ad I A) (w_X1 G ad I A) sz r := by
  refine ct_of (by decide) (Nat.le_of_ble_eq_true rfl) (fun p e s m below meth c ls C w hsz hl => ?_)
  have hx := C.1
  have hb := C.2.1
  have hl : lv_has ls 2 [(0, .ref (ad 0)), (1, .int a1)] := hl
  unfold f_X1_due at h
  refine lv_aload_n hx hb dX1_due_0 rfl (lv_at hl 0 rfl) ?_
  refine r_get C w 0 1 2 (.ref (ad 3)) ge_X1_0 rfl inX1 (by decide) tt_114 rfl dX1_due_1 ?_
  refine lv_iload_n hx hb dX1_due_4 rfl (lv_at hl 1 rfl) ?_
  obtain ⟨hin2, h⟩ := gdS h
  refine r_iald C w 3 (A 2 a1.toNatClampNeg) ge_X1_3 rfl hin2 dX1_due_5 ?_
  refine lv_bipush (v := (100)) hx hb dX1_due_6 (by decide) ?_
  refine lv_iadd hx hb dX1_due_8 ?_
  cases h
  exact ret_I C w rfl rfl dX1_due_9
set_option maxHeartbeats 4000000 in
set_option maxRecDepth 100000 in
theorem w_X1_anyRuns_3 {p : Program} {l : Launch} {e : Env} {s : State} {m : MethodId} {args : Array Value} {below : List Frame} {meth : Method} {c : Code} {FA : Nat → Prop} {G : GG} {ad : Nat → Nat} {r : Int32} {I : Nat → Int32} {A : Nat → Nat → Int32} (C : CX p m meth c s args yX1_anyRuns cX1_anyRuns 5 (some .boolean)) (N : Nat) : ∀ n : Nat, ∀ (v1 : Int32) (v2 : Int32) (v3 : Int32) (v4 : Int32), f_X1_anyRuns_3 N I A n v1 v2 v3 v4 = some r → ∀ (H : Heap) (locs : List Loc), WD G FA (w_X1 G ad I A) s H locs → ∀ ls : Array Slot, lv_has ls 5 [(0, .ref (ad 0)), (1, .int v1), (2, .int v2), (3, .int v3), (4, .int v4)] → W p l e { frames := 1, cells := 0, slots := 0, locals := 22 } s m args below meth c H locs 0 0 (EnI below G FA args s (w_X1 G ad I A) r) (F0 m 3 ls []) := by
  have hx := C.1
  have hb := C.2.1
  intro n
  induction n with
  | zero =>
    intro v1 v2 v3 v4 h
    cases h
  | succ n ih =>
    intro v1 v2 v3 v4 h H locs w ls hl
    rw [f_X1_anyRuns_3] at h
    refine lv_iload hx hb dX1_anyRuns_3 (lv_at hl 4 rfl) ?_
    refine lv_aload_n hx hb dX1_anyRuns_5 rfl (lv_at hl 0 rfl) ?_
    refine r_get C w 0 1 4 (.int (I 4)) ge_X1_0 rfl inX1 (by decide) tt_118 rfl dX1_anyRuns_6 ?_
    refine lv_icmp_ge (tgt := 52) hx hb dX1_anyRuns_9 (by decide) (fun c4 => ?_) (fun c4 => ?_)
    · rw [if_pos c4] at h
      refine lv_iconst (v := 0) hx hb dX1_anyRuns_52 (by decide) ?_
      cases h
      exact ret_Z C w (Or.inl rfl) rfl rfl dX1_anyRuns_53
    · rw [if_neg c4] at h
      refine lv_aload_n hx hb dX1_anyRuns_12 rfl (lv_at hl 0 rfl) ?_
      refine r_get C w 0 1 0 (.ref (ad 1)) ge_X1_0 rfl inX1 (by decide) tt_110 rfl dX1_anyRuns_13 ?_
      refine lv_iload hx hb dX1_anyRuns_16 (lv_at hl 4 rfl) ?_
      obtain ⟨hin5, h⟩ := gdS h
      refine r_iald C w 1 (A 0 v4.toNatClampNeg) ge_X1_1 rfl hin5 dX1_anyRuns_18 ?_
      refine lv_iload_n hx hb dX1_anyRuns_19 rfl (lv_at hl 1 rfl) ?_
      refine lv_icmp_ne (tgt := 46) hx hb dX1_anyRuns_20 (by decide) (fun c6 => ?_) (fun c6 => ?_)
      · rw [if_neg c6] at h
        refine lv_iinc (v := v4 + 1) (lv' := [(4, .int (v4 + 1)), (0, .ref (ad 0)), (1, .int v1), (2, .int v2), (3, .int v3)]) hx hb dX1_anyRuns_46 hl (k := 4) rfl rfl (by decide) rfl (fun ls hl => ?_)
        refine lv_goto (tgt := 3) hx hb dX1_anyRuns_49 (by decide) ?_
        exact ih v1 v2 v3 (v4 + 1) h _ _ w _ (lv_sub hl [1, 2, 3, 4, 0] rfl)
      · rw [if_pos c6] at h
        refine lv_aload_n hx hb dX1_anyRuns_23 rfl (lv_at hl 0 rfl) ?_
        refine r_get C w 0 1 1 (.ref (ad 2)) ge_X1_0 rfl inX1 (by decide) tt_112 rfl dX1_anyRuns_24 ?_
        refine lv_iload hx hb dX1_anyRuns_27 (lv_at hl 4 rfl) ?_
        obtain ⟨hin7, h⟩ := gdS h
        refine r_iald C w 2 (A 1 v4.toNatClampNeg) ge_X1_2 rfl hin7 dX1_anyRuns_29 ?_
        refine lv_iload_n hx hb dX1_anyRuns_30 rfl (lv_at hl 2 rfl) ?_
        refine lv_icmp_ne (tgt := 46) hx hb dX1_anyRuns_31 (by decide) (fun c8 => ?_) (fun c8 => ?_)
        · rw [if_neg c8] at h
          refine lv_iinc (v := v4 + 1) (lv' := [(4, .int (v4 + 1)), (0, .ref (ad 0)), (1, .int v1), (2, .int v2), (3, .int v3)]) hx hb dX1_anyRuns_46 hl (k := 4) rfl rfl (by decide) rfl (fun ls hl => ?_)
          refine lv_goto (tgt := 3) hx hb dX1_anyRuns_49 (by decide) ?_
          exact ih v1 v2 v3 (v4 + 1) h _ _ w _ (lv_sub hl [1, 2, 3, 4, 0] rfl)
        · rw [if_pos c8] at h
          refine lv_aload_n hx hb dX1_anyRuns_34 rfl (lv_at hl 0 rfl) ?_
          refine lv_iload hx hb dX1_anyRuns_35 (lv_at hl 4 rfl) ?_
          refine lv_iload_n hx hb dX1_anyRuns_37 rfl (lv_at hl 3 rfl) ?_
          obtain ⟨x9, hx9, h⟩ := bdS h
          have w0 := w.z
          refine cl_i (wc' := (w_X1 G ad I A)) w0 (run_V (As := [.int v4, .int v3]) (rest := []) C w0 (c_X1_runs l G ad  _ I A v4 v3 x9 hx9) mt_X1_runs tt_251 1 rfl rfl rfl rfl ⟨Nat.le_of_ble_eq_true rfl, Nat.le_of_ble_eq_true rfl⟩ hl.1 (Nat.le_of_ble_eq_true rfl) dX1_anyRuns_38 ⟨Nat.le_of_ble_eq_true rfl, Nat.le_of_ble_eq_true rfl⟩) (fun H locs w => ?_)
          have w := w.uz
          refine lv_if_eq (tgt := 46) hx hb dX1_anyRuns_41 (by decide) (fun c10 => ?_) (fun c10 => ?_)
          · rw [if_pos c10] at h
            refine lv_iinc (v := v4 + 1) (lv' := [(4, .int (v4 + 1)), (0, .ref (ad 0)), (1, .int v1), (2, .int v2), (3, .int v3)]) hx hb dX1_anyRuns_46 hl (k := 4) rfl rfl (by decide) rfl (fun ls hl => ?_)
            refine lv_goto (tgt := 3) hx hb dX1_anyRuns_49 (by decide) ?_
            exact ih v1 v2 v3 (v4 + 1) h _ _ w _ (lv_sub hl [1, 2, 3, 4, 0] rfl)
          · rw [if_neg c10] at h
            refine lv_iconst (v := 1) hx hb dX1_anyRuns_44 (by decide) ?_
            cases h
            exact ret_Z C w (Or.inr rfl) rfl rfl dX1_anyRuns_45
set_option maxHeartbeats 4000000 in
set_option maxRecDepth 100000 in
theorem c_X1_anyRuns (l : Launch) (G : GG) (ad : Nat → Nat) (sz : Nat) (N : Nat) (I : Nat → Int32) (A : Nat → Nat → Int32) (a1 : Int32) (a2 : Int32) (a3 : Int32) (r : Int32) (h : f_X1_anyRuns N I A a1 a2 a3 = some r) : CtI l yX1_anyRuns cX1_anyRuns 5 (some .boolean) { frames := 1, cells := 0, slots := 0, locals := 22 } G [.ref (ad 0), .int a1, .int a2, .int a3] (w_X1 G ad I A) (w_X1 G ad I A) sz r := by
  refine ct_of (by decide) (Nat.le_of_ble_eq_true rfl) (fun p e s m below meth c ls C w hsz hl => ?_)
  have hx := C.1
  have hb := C.2.1
  have hl : lv_has ls 5 [(0, .ref (ad 0)), (1, .int a1), (2, .int a2), (3, .int a3)] := hl
  unfold f_X1_anyRuns at h
  refine lv_iconst (v := 0) hx hb dX1_anyRuns_0 (by decide) ?_
  refine lv_istore (lv' := [(4, .int 0), (0, .ref (ad 0)), (1, .int a1), (2, .int a2), (3, .int a3)]) hx hb dX1_anyRuns_1 hl (by decide) rfl (fun ls hl => ?_)
  exact w_X1_anyRuns_3 C N N a1 a2 a3 0 h _ _ w _ (lv_sub hl [1, 2, 3, 4, 0] rfl)
set_option maxHeartbeats 4000000 in
set_option maxRecDepth 100000 in
theorem w_X1_openDuties_4 {p : Program} {l : Launch} {e : Env} {s : State} {m : MethodId} {args : Array Value} {below : List Frame} {meth : Method} {c : Code} {FA : Nat → Prop} {G : GG} {ad : Nat → Nat} {r : Int32} {I : Nat → Int32} {A : Nat → Nat → Int32} (C : CX p m meth c s args yX1_openDuties cX1_openDuties 4 (some .int)) (N : Nat) : ∀ n : Nat, ∀ (v1 : Int32) (v2 : Int32) (v3 : Int32), f_X1_openDuties_4 N I A n v1 v2 v3 = some r → ∀ (H : Heap) (locs : List Loc), WD G FA (w_X1 G ad I A) s H locs → ∀ ls : Array Slot, lv_has ls 4 [(0, .ref (ad 0)), (1, .int v1), (2, .int v2), (3, .int v3)] → W p l e { frames := 0, cells := 0, slots := 0, locals := 0 } s m args below meth c H locs 0 0 (EnI below G FA args s (w_X1 G ad I A) r) (F0 m 4 ls []) := by
  have hx := C.1
  have hb := C.2.1
  intro n
  induction n with
  | zero =>
    intro v1 v2 v3 h
    cases h
  | succ n ih =>
    intro v1 v2 v3 h H locs w ls hl
    rw [f_X1_openDuties_4] at h
    refine lv_iload_n hx hb dX1_openDuties_4 rfl (lv_at hl 3 rfl) ?_
    refine lv_aload_n hx hb dX1_openDuties_5 rfl (lv_at hl 0 rfl) ?_
    refine r_get C w 0 1 4 (.int (I 4)) ge_X1_0 rfl inX1 (by decide) tt_118 rfl dX1_openDuties_6 ?_
    refine lv_icmp_ge (tgt := 40) hx hb dX1_openDuties_9 (by decide) (fun c3 => ?_) (fun c3 => ?_)
    · rw [if_pos c3] at h
      refine lv_iload_n hx hb dX1_openDuties_40 rfl (lv_at hl 2 rfl) ?_
      cases h
      exact ret_I C w rfl rfl dX1_openDuties_41
    · rw [if_neg c3] at h
      refine lv_aload_n hx hb dX1_openDuties_12 rfl (lv_at hl 0 rfl) ?_
      refine r_get C w 0 1 0 (.ref (ad 1)) ge_X1_0 rfl inX1 (by decide) tt_110 rfl dX1_openDuties_13 ?_
      refine lv_iload_n hx hb dX1_openDuties_16 rfl (lv_at hl 3 rfl) ?_
      obtain ⟨hin4, h⟩ := gdS h
      refine r_iald C w 1 (A 0 v3.toNatClampNeg) ge_X1_1 rfl hin4 dX1_openDuties_17 ?_
      refine lv_iload_n hx hb dX1_openDuties_18 rfl (lv_at hl 1 rfl) ?_
      refine lv_icmp_ne (tgt := 34) hx hb dX1_openDuties_19 (by decide) (fun c5 => ?_) (fun c5 => ?_)
      · rw [if_neg c5] at h
        refine lv_iinc (v := v3 + 1) (lv' := [(3, .int (v3 + 1)), (0, .ref (ad 0)), (1, .int v1), (2, .int v2)]) hx hb dX1_openDuties_34 hl (k := 3) rfl rfl (by decide) rfl (fun ls hl => ?_)
        refine lv_goto (tgt := 4) hx hb dX1_openDuties_37 (by decide) ?_
        exact ih v1 v2 (v3 + 1) h _ _ w _ (lv_sub hl [1, 2, 3, 0] rfl)
      · rw [if_pos c5] at h
        refine lv_aload_n hx hb dX1_openDuties_22 rfl (lv_at hl 0 rfl) ?_
        refine r_get C w 0 1 3 (.ref (ad 4)) ge_X1_0 rfl inX1 (by decide) tt_116 rfl dX1_openDuties_23 ?_
        refine lv_iload_n hx hb dX1_openDuties_26 rfl (lv_at hl 3 rfl) ?_
        obtain ⟨hin6, h⟩ := gdS h
        refine r_zald C w 4 (A 3 v3.toNatClampNeg) ge_X1_4 rfl hin6 dX1_openDuties_27 ?_
        refine lv_if_eq (tgt := 34) hx hb dX1_openDuties_28 (by decide) (fun c7 => ?_) (fun c7 => ?_)
        · rw [if_pos c7] at h
          refine lv_iinc (v := v3 + 1) (lv' := [(3, .int (v3 + 1)), (0, .ref (ad 0)), (1, .int v1), (2, .int v2)]) hx hb dX1_openDuties_34 hl (k := 3) rfl rfl (by decide) rfl (fun ls hl => ?_)
          refine lv_goto (tgt := 4) hx hb dX1_openDuties_37 (by decide) ?_
          exact ih v1 v2 (v3 + 1) h _ _ w _ (lv_sub hl [1, 2, 3, 0] rfl)
        · rw [if_neg c7] at h
          refine lv_iinc (v := v2 + 1) (lv' := [(2, .int (v2 + 1)), (0, .ref (ad 0)), (1, .int v1), (3, .int v3)]) hx hb dX1_openDuties_31 hl (k := 2) rfl rfl (by decide) rfl (fun ls hl => ?_)
          refine lv_iinc (v := v3 + 1) (lv' := [(3, .int (v3 + 1)), (2, .int (v2 + 1)), (0, .ref (ad 0)), (1, .int v1)]) hx hb dX1_openDuties_34 hl (k := 3) rfl rfl (by decide) rfl (fun ls hl => ?_)
          refine lv_goto (tgt := 4) hx hb dX1_openDuties_37 (by decide) ?_
          exact ih v1 (v2 + 1) (v3 + 1) h _ _ w _ (lv_sub hl [2, 3, 1, 0] rfl)
set_option maxHeartbeats 4000000 in
set_option maxRecDepth 100000 in
theorem c_X1_openDuties (l : Launch) (G : GG) (ad : Nat → Nat) (sz : Nat) (N : Nat) (I : Nat → Int32) (A : Nat → Nat → Int32) (a1 : Int32) (r : Int32) (h : f_X1_openDuties N I A a1 = some r) : CtI l yX1_openDuties cX1_openDuties 4 (some .int) { frames := 0, cells := 0, slots := 0, locals := 0 } G [.ref (ad 0), .int a1] (w_X1 G ad I A) (w_X1 G ad I A) sz r := by
  refine ct_of (by decide) (Nat.le_of_ble_eq_true rfl) (fun p e s m below meth c ls C w hsz hl => ?_)
  have hx := C.1
  have hb := C.2.1
  have hl : lv_has ls 4 [(0, .ref (ad 0)), (1, .int a1)] := hl
  unfold f_X1_openDuties at h
  refine lv_iconst (v := 0) hx hb dX1_openDuties_0 (by decide) ?_
  refine lv_istore_n (lv' := [(2, .int 0), (0, .ref (ad 0)), (1, .int a1)]) hx hb dX1_openDuties_1 rfl hl (by decide) rfl (fun ls hl => ?_)
  refine lv_iconst (v := 0) hx hb dX1_openDuties_2 (by decide) ?_
  refine lv_istore_n (lv' := [(3, .int 0), (2, .int 0), (0, .ref (ad 0)), (1, .int a1)]) hx hb dX1_openDuties_3 rfl hl (by decide) rfl (fun ls hl => ?_)
  exact w_X1_openDuties_4 C N N a1 0 0 h _ _ w _ (lv_sub hl [2, 3, 1, 0] rfl)
set_option maxHeartbeats 4000000 in
set_option maxRecDepth 100000 in
theorem w_X1_anyDue_2 {p : Program} {l : Launch} {e : Env} {s : State} {m : MethodId} {args : Array Value} {below : List Frame} {meth : Method} {c : Code} {FA : Nat → Prop} {G : GG} {ad : Nat → Nat} {r : Int32} {I : Nat → Int32} {A : Nat → Nat → Int32} (C : CX p m meth c s args yX1_anyDue cX1_anyDue 4 (some .boolean)) (N : Nat) : ∀ n : Nat, ∀ (v1 : Int32) (v2 : Int32) (v3 : Int32), f_X1_anyDue_2 N I A n v1 v2 v3 = some r → ∀ (H : Heap) (locs : List Loc), WD G FA (w_X1 G ad I A) s H locs → ∀ ls : Array Slot, lv_has ls 4 [(0, .ref (ad 0)), (1, .int v1), (2, .int v2), (3, .int v3)] → W p l e { frames := 1, cells := 0, slots := 0, locals := 21 } s m args below meth c H locs 0 0 (EnI below G FA args s (w_X1 G ad I A) r) (F0 m 2 ls []) := by
  have hx := C.1
  have hb := C.2.1
  intro n
  induction n with
  | zero =>
    intro v1 v2 v3 h
    cases h
  | succ n ih =>
    intro v1 v2 v3 h H locs w ls hl
    rw [f_X1_anyDue_2] at h
    refine lv_iload_n hx hb dX1_anyDue_2 rfl (lv_at hl 3 rfl) ?_
    refine lv_aload_n hx hb dX1_anyDue_3 rfl (lv_at hl 0 rfl) ?_
    refine r_get C w 0 1 4 (.int (I 4)) ge_X1_0 rfl inX1 (by decide) tt_118 rfl dX1_anyDue_4 ?_
    refine lv_icmp_ge (tgt := 46) hx hb dX1_anyDue_7 (by decide) (fun c4 => ?_) (fun c4 => ?_)
    · rw [if_pos c4] at h
      refine lv_iconst (v := 0) hx hb dX1_anyDue_46 (by decide) ?_
      cases h
      exact ret_Z C w (Or.inl rfl) rfl rfl dX1_anyDue_47
    · rw [if_neg c4] at h
      refine lv_aload_n hx hb dX1_anyDue_10 rfl (lv_at hl 0 rfl) ?_
      refine r_get C w 0 1 0 (.ref (ad 1)) ge_X1_0 rfl inX1 (by decide) tt_110 rfl dX1_anyDue_11 ?_
      refine lv_iload_n hx hb dX1_anyDue_14 rfl (lv_at hl 3 rfl) ?_
      obtain ⟨hin5, h⟩ := gdS h
      refine r_iald C w 1 (A 0 v3.toNatClampNeg) ge_X1_1 rfl hin5 dX1_anyDue_15 ?_
      refine lv_iload_n hx hb dX1_anyDue_16 rfl (lv_at hl 1 rfl) ?_
      refine lv_icmp_ne (tgt := 40) hx hb dX1_anyDue_17 (by decide) (fun c6 => ?_) (fun c6 => ?_)
      · rw [if_neg c6] at h
        refine lv_iinc (v := v3 + 1) (lv' := [(3, .int (v3 + 1)), (0, .ref (ad 0)), (1, .int v1), (2, .int v2)]) hx hb dX1_anyDue_40 hl (k := 3) rfl rfl (by decide) rfl (fun ls hl => ?_)
        refine lv_goto (tgt := 2) hx hb dX1_anyDue_43 (by decide) ?_
        exact ih v1 v2 (v3 + 1) h _ _ w _ (lv_sub hl [1, 2, 3, 0] rfl)
      · rw [if_pos c6] at h
        refine lv_aload_n hx hb dX1_anyDue_20 rfl (lv_at hl 0 rfl) ?_
        refine r_get C w 0 1 3 (.ref (ad 4)) ge_X1_0 rfl inX1 (by decide) tt_116 rfl dX1_anyDue_21 ?_
        refine lv_iload_n hx hb dX1_anyDue_24 rfl (lv_at hl 3 rfl) ?_
        obtain ⟨hin7, h⟩ := gdS h
        refine r_zald C w 4 (A 3 v3.toNatClampNeg) ge_X1_4 rfl hin7 dX1_anyDue_25 ?_
        refine lv_if_eq (tgt := 40) hx hb dX1_anyDue_26 (by decide) (fun c8 => ?_) (fun c8 => ?_)
        · rw [if_pos c8] at h
          refine lv_iinc (v := v3 + 1) (lv' := [(3, .int (v3 + 1)), (0, .ref (ad 0)), (1, .int v1), (2, .int v2)]) hx hb dX1_anyDue_40 hl (k := 3) rfl rfl (by decide) rfl (fun ls hl => ?_)
          refine lv_goto (tgt := 2) hx hb dX1_anyDue_43 (by decide) ?_
          exact ih v1 v2 (v3 + 1) h _ _ w _ (lv_sub hl [1, 2, 3, 0] rfl)
        · rw [if_neg c8] at h
          refine lv_iload_n hx hb dX1_anyDue_29 rfl (lv_at hl 2 rfl) ?_
          refine lv_aload_n hx hb dX1_anyDue_30 rfl (lv_at hl 0 rfl) ?_
          refine lv_iload_n hx hb dX1_anyDue_31 rfl (lv_at hl 3 rfl) ?_
          obtain ⟨x9, hx9, h⟩ := bdS h
          have w0 := w.z
          refine cl_i (wc' := (w_X1 G ad I A)) w0 (run_V (As := [.int v3]) (rest := [.int v2]) C w0 (c_X1_due l G ad  _ I A v3 x9 hx9) mt_X1_due tt_298 1 rfl rfl rfl rfl ⟨Nat.le_of_ble_eq_true rfl, Nat.le_of_ble_eq_true rfl⟩ hl.1 (Nat.le_of_ble_eq_true rfl) dX1_anyDue_32 ⟨Nat.le_of_ble_eq_true rfl, Nat.le_of_ble_eq_true rfl⟩) (fun H locs w => ?_)
          have w := w.uz
          refine lv_icmp_lt (tgt := 40) hx hb dX1_anyDue_35 (by decide) (fun c10 => ?_) (fun c10 => ?_)
          · rw [if_pos c10] at h
            refine lv_iinc (v := v3 + 1) (lv' := [(3, .int (v3 + 1)), (0, .ref (ad 0)), (1, .int v1), (2, .int v2)]) hx hb dX1_anyDue_40 hl (k := 3) rfl rfl (by decide) rfl (fun ls hl => ?_)
            refine lv_goto (tgt := 2) hx hb dX1_anyDue_43 (by decide) ?_
            exact ih v1 v2 (v3 + 1) h _ _ w _ (lv_sub hl [1, 2, 3, 0] rfl)
          · rw [if_neg c10] at h
            refine lv_iconst (v := 1) hx hb dX1_anyDue_38 (by decide) ?_
            cases h
            exact ret_Z C w (Or.inr rfl) rfl rfl dX1_anyDue_39
set_option maxHeartbeats 4000000 in
set_option maxRecDepth 100000 in
theorem c_X1_anyDue (l : Launch) (G : GG) (ad : Nat → Nat) (sz : Nat) (N : Nat) (I : Nat → Int32) (A : Nat → Nat → Int32) (a1 : Int32) (a2 : Int32) (r : Int32) (h : f_X1_anyDue N I A a1 a2 = some r) : CtI l yX1_anyDue cX1_anyDue 4 (some .boolean) { frames := 1, cells := 0, slots := 0, locals := 21 } G [.ref (ad 0), .int a1, .int a2] (w_X1 G ad I A) (w_X1 G ad I A) sz r := by
  refine ct_of (by decide) (Nat.le_of_ble_eq_true rfl) (fun p e s m below meth c ls C w hsz hl => ?_)
  have hx := C.1
  have hb := C.2.1
  have hl : lv_has ls 4 [(0, .ref (ad 0)), (1, .int a1), (2, .int a2)] := hl
  unfold f_X1_anyDue at h
  refine lv_iconst (v := 0) hx hb dX1_anyDue_0 (by decide) ?_
  refine lv_istore_n (lv' := [(3, .int 0), (0, .ref (ad 0)), (1, .int a1), (2, .int a2)]) hx hb dX1_anyDue_1 rfl hl (by decide) rfl (fun ls hl => ?_)
  exact w_X1_anyDue_2 C N N a1 a2 0 h _ _ w _ (lv_sub hl [1, 2, 3, 0] rfl)
set_option maxHeartbeats 4000000 in
set_option maxRecDepth 100000 in
theorem c_X2_hasTask (l : Launch) (G : GG) (ad : Nat → Nat) (sz : Nat) (I : Nat → Int32) (A : Nat → Nat → Int32) (a1 : Int32) (r : Int32) (h : f_X2_hasTask I A a1 = some r) : CtI l yX2_hasTask cX2_hasTask 2 (some .boolean) { frames := 1, cells := 0, slots := 0, locals := 21 } G [.ref (ad 0), .int a1] (w_X2 G ad I A) (w_X2 G ad I A) sz r := by
  refine ct_of (by decide) (Nat.le_of_ble_eq_true rfl) (fun p e s m below meth c ls C w hsz hl => ?_)
  have hx := C.1
  have hb := C.2.1
  have hl : lv_has ls 2 [(0, .ref (ad 0)), (1, .int a1)] := hl
  unfold f_X2_hasTask at h
  refine lv_iload_n hx hb dX2_hasTask_0 rfl (lv_at hl 1 rfl) ?_
  refine lv_aload_n hx hb dX2_hasTask_1 rfl (lv_at hl 0 rfl) ?_
  refine r_get C w 0 2 4 (.int (I 4)) ge_X2_0 rfl inX2 (by decide) tt_343 rfl dX2_hasTask_2 ?_
  obtain ⟨x2, hx2, h⟩ := bdS h
  have w0 : WD G _ ([] ++ ([] ++ (w_X2 G ad I A))) s _ _ := w
  refine cl_i (wc' := []) w0 (run_SN (As := [.int a1, .int (I 4)]) (rest := []) C w0 (c_X5_isBelow l G  _ a1 (I 4) x2 hx2) mt_X5_isBelow nn_397 rfl rfl ⟨Nat.le_of_ble_eq_true rfl, Nat.le_of_ble_eq_true rfl⟩ hl.1 (Nat.le_of_ble_eq_true rfl) dX2_hasTask_5 ⟨Nat.le_of_ble_eq_true rfl, Nat.le_of_ble_eq_true rfl⟩) (fun H locs w => ?_)
  have w : WD G _ (w_X2 G ad I A) s H locs := w
  obtain ⟨hbz, h⟩ := gpS h
  cases h
  exact ret_Z C w hbz rfl rfl dX2_hasTask_8
set_option maxHeartbeats 4000000 in
set_option maxRecDepth 100000 in
theorem c_X2_arePair (l : Launch) (G : GG) (ad : Nat → Nat) (sz : Nat) (I : Nat → Int32) (A : Nat → Nat → Int32) (a1 : Int32) (a2 : Int32) (r : Int32) (h : f_X2_arePair I A a1 a2 = some r) : CtI l yX2_arePair cX2_arePair 3 (some .boolean) { frames := 2, cells := 0, slots := 0, locals := 42 } G [.ref (ad 0), .int a1, .int a2] (w_X2 G ad I A) (w_X2 G ad I A) sz r := by
  refine ct_of (by decide) (Nat.le_of_ble_eq_true rfl) (fun p e s m below meth c ls C w hsz hl => ?_)
  have hx := C.1
  have hb := C.2.1
  have hl : lv_has ls 3 [(0, .ref (ad 0)), (1, .int a1), (2, .int a2)] := hl
  unfold f_X2_arePair at h
  refine lv_aload_n hx hb dX2_arePair_0 rfl (lv_at hl 0 rfl) ?_
  refine lv_iload_n hx hb dX2_arePair_1 rfl (lv_at hl 1 rfl) ?_
  obtain ⟨x3, hx3, h⟩ := bdS h
  have w0 := w.z
  refine cl_i (wc' := (w_X2 G ad I A)) w0 (run_V (As := [.int a1]) (rest := []) C w0 (c_X2_hasTask l G ad  _ I A a1 x3 hx3) mt_X2_hasTask tt_393 2 rfl rfl rfl rfl ⟨Nat.le_of_ble_eq_true rfl, Nat.le_of_ble_eq_true rfl⟩ hl.1 (Nat.le_of_ble_eq_true rfl) dX2_arePair_2 ⟨Nat.le_of_ble_eq_true rfl, Nat.le_of_ble_eq_true rfl⟩) (fun H locs w => ?_)
  have w := w.uz
  refine lv_if_eq (tgt := 25) hx hb dX2_arePair_5 (by decide) (fun c4 => ?_) (fun c4 => ?_)
  · rw [if_pos c4] at h
    refine lv_iconst (v := 0) hx hb dX2_arePair_25 (by decide) ?_
    cases h
    exact ret_Z C w (Or.inl rfl) rfl rfl dX2_arePair_26
  · rw [if_neg c4] at h
    refine lv_aload_n hx hb dX2_arePair_8 rfl (lv_at hl 0 rfl) ?_
    refine lv_iload_n hx hb dX2_arePair_9 rfl (lv_at hl 2 rfl) ?_
    obtain ⟨x5, hx5, h⟩ := bdS h
    have w0 := w.z
    refine cl_i (wc' := (w_X2 G ad I A)) w0 (run_V (As := [.int a2]) (rest := []) C w0 (c_X2_hasTask l G ad  _ I A a2 x5 hx5) mt_X2_hasTask tt_393 2 rfl rfl rfl rfl ⟨Nat.le_of_ble_eq_true rfl, Nat.le_of_ble_eq_true rfl⟩ hl.1 (Nat.le_of_ble_eq_true rfl) dX2_arePair_10 ⟨Nat.le_of_ble_eq_true rfl, Nat.le_of_ble_eq_true rfl⟩) (fun H locs w => ?_)
    have w := w.uz
    refine lv_if_eq (tgt := 25) hx hb dX2_arePair_13 (by decide) (fun c6 => ?_) (fun c6 => ?_)
    · rw [if_pos c6] at h
      refine lv_iconst (v := 0) hx hb dX2_arePair_25 (by decide) ?_
      cases h
      exact ret_Z C w (Or.inl rfl) rfl rfl dX2_arePair_26
    · rw [if_neg c6] at h
      refine lv_iload_n hx hb dX2_arePair_16 rfl (lv_at hl 1 rfl) ?_
      refine lv_iload_n hx hb dX2_arePair_17 rfl (lv_at hl 2 rfl) ?_
      refine lv_icmp_eq (tgt := 25) hx hb dX2_arePair_18 (by decide) (fun c7 => ?_) (fun c7 => ?_)
      · rw [if_pos c7] at h
        refine lv_iconst (v := 0) hx hb dX2_arePair_25 (by decide) ?_
        cases h
        exact ret_Z C w (Or.inl rfl) rfl rfl dX2_arePair_26
      · rw [if_neg c7] at h
        refine lv_iconst (v := 1) hx hb dX2_arePair_21 (by decide) ?_
        refine lv_goto (tgt := 26) hx hb dX2_arePair_22 (by decide) ?_
        cases h
        exact ret_Z C w (Or.inr rfl) rfl rfl dX2_arePair_26
set_option maxHeartbeats 4000000 in
set_option maxRecDepth 100000 in
theorem c_X2_addTask (l : Launch) (G : GG) (ad : Nat → Nat) (sz : Nat) (I : Nat → Int32) (A : Nat → Nat → Int32) (a1 : Int32) (a2 : Int32) (r : Int32) (I' : Nat → Int32) (A' : Nat → Nat → Int32) (h : f_X2_addTask I A a1 a2 = some (r, I', A')) : CtI l yX2_addTask cX2_addTask 3 (some .int) { frames := 0, cells := 0, slots := 0, locals := 0 } G [.ref (ad 0), .int a1, .int a2] (w_X2 G ad I A) (w_X2 G ad I' A') sz r := by
  refine ct_of (by decide) (Nat.le_of_ble_eq_true rfl) (fun p e s m below meth c ls C w hsz hl => ?_)
  have hx := C.1
  have hb := C.2.1
  have hl : lv_has ls 3 [(0, .ref (ad 0)), (1, .int a1), (2, .int a2)] := hl
  unfold f_X2_addTask at h
  refine lv_aload_n hx hb dX2_addTask_0 rfl (lv_at hl 0 rfl) ?_
  refine r_get C w 0 2 4 (.int (I 4)) ge_X2_0 rfl inX2 (by decide) tt_343 rfl dX2_addTask_1 ?_
  refine lv_bipush (v := (6)) hx hb dX2_addTask_4 (by decide) ?_
  refine lv_icmp_lt (tgt := 12) hx hb dX2_addTask_6 (by decide) (fun c3 => ?_) (fun c3 => ?_)
  · rw [if_pos c3] at h
    refine lv_aload_n hx hb dX2_addTask_12 rfl (lv_at hl 0 rfl) ?_
    refine r_get C w 0 2 0 (.ref (ad 1)) ge_X2_0 rfl inX2 (by decide) tt_333 rfl dX2_addTask_13 ?_
    refine lv_aload_n hx hb dX2_addTask_16 rfl (lv_at hl 0 rfl) ?_
    refine r_get C w 0 2 4 (.int (I 4)) ge_X2_0 rfl inX2 (by decide) tt_343 rfl dX2_addTask_17 ?_
    refine lv_iload_n hx hb dX2_addTask_20 rfl (lv_at hl 1 rfl) ?_
    obtain ⟨hin4, h⟩ := gdS h
    refine r_iast C w 1 (w_X2 G ad I (aS A 0 (I 4).toNatClampNeg a1)) ge_X2_1 hin4 st_X2_1 dX2_addTask_21 (fun H locs w => ?_)
    refine lv_aload_n hx hb dX2_addTask_22 rfl (lv_at hl 0 rfl) ?_
    refine r_get C w 0 2 1 (.ref (ad 2)) ge_X2_0 rfl inX2 (by decide) tt_335 rfl dX2_addTask_23 ?_
    refine lv_aload_n hx hb dX2_addTask_26 rfl (lv_at hl 0 rfl) ?_
    refine r_get C w 0 2 4 (.int (I 4)) ge_X2_0 rfl inX2 (by decide) tt_343 rfl dX2_addTask_27 ?_
    refine lv_iload_n hx hb dX2_addTask_30 rfl (lv_at hl 2 rfl) ?_
    obtain ⟨hin5, h⟩ := gdS h
    refine r_iast C w 2 (w_X2 G ad I (aS (aS A 0 (I 4).toNatClampNeg a1) 1 (I 4).toNatClampNeg a2)) ge_X2_2 hin5 st_X2_2 dX2_addTask_31 (fun H locs w => ?_)
    refine lv_aload_n hx hb dX2_addTask_32 rfl (lv_at hl 0 rfl) ?_
    refine lv_dup hx hb dX2_addTask_33 rfl ?_
    refine r_get C w 0 2 4 (.int (I 4)) ge_X2_0 rfl inX2 (by decide) tt_343 rfl dX2_addTask_34 ?_
    refine lv_iconst (v := 1) hx hb dX2_addTask_37 (by decide) ?_
    refine lv_iadd hx hb dX2_addTask_38 ?_
    refine r_put C w 0 2 4 (w_X2 G ad (upd I 4 ((I 4) + 1)) (aS (aS A 0 (I 4).toNatClampNeg a1) 1 (I 4).toNatClampNeg a2)) tyX2_ok nmX2 ge_X2_0 rfl inX2 (by decide) tt_343 rfl rfl rfl (Nat.le_of_ble_eq_true rfl) st_X2_0_4 dX2_addTask_39 (fun H locs w => ?_)
    refine lv_aload_n hx hb dX2_addTask_42 rfl (lv_at hl 0 rfl) ?_
    refine r_get C w 0 2 4 (.int ((upd I 4 ((I 4) + 1)) 4)) ge_X2_0 rfl inX2 (by decide) tt_343 rfl dX2_addTask_43 ?_
    refine lv_iconst (v := 1) hx hb dX2_addTask_46 (by decide) ?_
    refine lv_isub hx hb dX2_addTask_47 ?_
    cases h
    exact ret_I C w rfl rfl dX2_addTask_48
  · rw [if_neg c3] at h
    refine lv_bipush (v := (-3)) hx hb dX2_addTask_9 (by decide) ?_
    cases h
    exact ret_I C w rfl rfl dX2_addTask_11
set_option maxHeartbeats 4000000 in
set_option maxRecDepth 100000 in
theorem c_X3_isFull (l : Launch) (G : GG) (ad : Nat → Nat) (sz : Nat) (I : Nat → Int32) (A : Nat → Nat → Int32) (J : Nat → Nat → Int64) (r : Int32) (h : f_X3_isFull I A J = some r) : CtI l yX3_isFull cX3_isFull 1 (some .boolean) { frames := 0, cells := 0, slots := 0, locals := 0 } G [.ref (ad 0)] (w_X3 G ad I A J) (w_X3 G ad I A J) sz r := by
  refine ct_of (by decide) (Nat.le_of_ble_eq_true rfl) (fun p e s m below meth c ls C w hsz hl => ?_)
  have hx := C.1
  have hb := C.2.1
  have hl : lv_has ls 1 [(0, .ref (ad 0))] := hl
  unfold f_X3_isFull at h
  refine lv_aload_n hx hb dX3_isFull_0 rfl (lv_at hl 0 rfl) ?_
  refine r_get C w 0 3 2 (.int (I 2)) ge_X3_0 rfl inX3 (by decide) tt_146 rfl dX3_isFull_1 ?_
  refine lv_sipush (v := (240)) hx hb dX3_isFull_4 (by decide) ?_
  refine lv_icmp_lt (tgt := 14) hx hb dX3_isFull_7 (by decide) (fun c1 => ?_) (fun c1 => ?_)
  · rw [if_pos c1] at h
    refine lv_iconst (v := 0) hx hb dX3_isFull_14 (by decide) ?_
    cases h
    exact ret_Z C w (Or.inl rfl) rfl rfl dX3_isFull_15
  · rw [if_neg c1] at h
    refine lv_iconst (v := 1) hx hb dX3_isFull_10 (by decide) ?_
    refine lv_goto (tgt := 15) hx hb dX3_isFull_11 (by decide) ?_
    cases h
    exact ret_Z C w (Or.inr rfl) rfl rfl dX3_isFull_15
set_option maxHeartbeats 4000000 in
set_option maxRecDepth 100000 in
theorem c_X3_hasEntry (l : Launch) (G : GG) (ad : Nat → Nat) (sz : Nat) (I : Nat → Int32) (A : Nat → Nat → Int32) (J : Nat → Nat → Int64) (a1 : Int32) (r : Int32) (h : f_X3_hasEntry I A J a1 = some r) : CtI l yX3_hasEntry cX3_hasEntry 2 (some .boolean) { frames := 1, cells := 0, slots := 0, locals := 21 } G [.ref (ad 0), .int a1] (w_X3 G ad I A J) (w_X3 G ad I A J) sz r := by
  refine ct_of (by decide) (Nat.le_of_ble_eq_true rfl) (fun p e s m below meth c ls C w hsz hl => ?_)
  have hx := C.1
  have hb := C.2.1
  have hl : lv_has ls 2 [(0, .ref (ad 0)), (1, .int a1)] := hl
  unfold f_X3_hasEntry at h
  refine lv_iload_n hx hb dX3_hasEntry_0 rfl (lv_at hl 1 rfl) ?_
  refine lv_aload_n hx hb dX3_hasEntry_1 rfl (lv_at hl 0 rfl) ?_
  refine r_get C w 0 3 2 (.int (I 2)) ge_X3_0 rfl inX3 (by decide) tt_146 rfl dX3_hasEntry_2 ?_
  obtain ⟨x2, hx2, h⟩ := bdS h
  have w0 : WD G _ ([] ++ ([] ++ (w_X3 G ad I A J))) s _ _ := w
  refine cl_i (wc' := []) w0 (run_SN (As := [.int a1, .int (I 2)]) (rest := []) C w0 (c_X5_isBelow l G  _ a1 (I 2) x2 hx2) mt_X5_isBelow nn_516 rfl rfl ⟨Nat.le_of_ble_eq_true rfl, Nat.le_of_ble_eq_true rfl⟩ hl.1 (Nat.le_of_ble_eq_true rfl) dX3_hasEntry_5 ⟨Nat.le_of_ble_eq_true rfl, Nat.le_of_ble_eq_true rfl⟩) (fun H locs w => ?_)
  have w : WD G _ (w_X3 G ad I A J) s H locs := w
  obtain ⟨hbz, h⟩ := gpS h
  cases h
  exact ret_Z C w hbz rfl rfl dX3_hasEntry_8
set_option maxHeartbeats 4000000 in
set_option maxRecDepth 100000 in
theorem c_X3_hasCell (l : Launch) (G : GG) (ad : Nat → Nat) (sz : Nat) (I : Nat → Int32) (A : Nat → Nat → Int32) (J : Nat → Nat → Int64) (a1 : Int32) (a2 : Int32) (r : Int32) (h : f_X3_hasCell I A J a1 a2 = some r) : CtI l yX3_hasCell cX3_hasCell 3 (some .boolean) { frames := 2, cells := 0, slots := 0, locals := 42 } G [.ref (ad 0), .int a1, .int a2] (w_X3 G ad I A J) (w_X3 G ad I A J) sz r := by
  refine ct_of (by decide) (Nat.le_of_ble_eq_true rfl) (fun p e s m below meth c ls C w hsz hl => ?_)
  have hx := C.1
  have hb := C.2.1
  have hl : lv_has ls 3 [(0, .ref (ad 0)), (1, .int a1), (2, .int a2)] := hl
  unfold f_X3_hasCell at h
  refine lv_aload_n hx hb dX3_hasCell_0 rfl (lv_at hl 0 rfl) ?_
  refine lv_iload_n hx hb dX3_hasCell_1 rfl (lv_at hl 1 rfl) ?_
  obtain ⟨x3, hx3, h⟩ := bdS h
  have w0 := w.z
  refine cl_i (wc' := (w_X3 G ad I A J)) w0 (run_V (As := [.int a1]) (rest := []) C w0 (c_X3_hasEntry l G ad  _ I A J a1 x3 hx3) mt_X3_hasEntry tt_512 3 rfl rfl rfl rfl ⟨Nat.le_of_ble_eq_true rfl, Nat.le_of_ble_eq_true rfl⟩ hl.1 (Nat.le_of_ble_eq_true rfl) dX3_hasCell_2 ⟨Nat.le_of_ble_eq_true rfl, Nat.le_of_ble_eq_true rfl⟩) (fun H locs w => ?_)
  have w := w.uz
  refine lv_if_eq (tgt := 20) hx hb dX3_hasCell_5 (by decide) (fun c4 => ?_) (fun c4 => ?_)
  · rw [if_pos c4] at h
    refine lv_iconst (v := 0) hx hb dX3_hasCell_20 (by decide) ?_
    cases h
    exact ret_Z C w (Or.inl rfl) rfl rfl dX3_hasCell_21
  · rw [if_neg c4] at h
    refine lv_iload_n hx hb dX3_hasCell_8 rfl (lv_at hl 2 rfl) ?_
    refine lv_iconst (v := 5) hx hb dX3_hasCell_9 (by decide) ?_
    obtain ⟨x5, hx5, h⟩ := bdS h
    have w0 : WD G _ ([] ++ ([] ++ (w_X3 G ad I A J))) s _ _ := w
    refine cl_i (wc' := []) w0 (run_SN (As := [.int a2, .int 5]) (rest := []) C w0 (c_X5_isBelow l G  _ a2 5 x5 hx5) mt_X5_isBelow nn_516 rfl rfl ⟨Nat.le_of_ble_eq_true rfl, Nat.le_of_ble_eq_true rfl⟩ hl.1 (Nat.le_of_ble_eq_true rfl) dX3_hasCell_10 ⟨Nat.le_of_ble_eq_true rfl, Nat.le_of_ble_eq_true rfl⟩) (fun H locs w => ?_)
    have w : WD G _ (w_X3 G ad I A J) s H locs := w
    refine lv_if_eq (tgt := 20) hx hb dX3_hasCell_13 (by decide) (fun c6 => ?_) (fun c6 => ?_)
    · rw [if_pos c6] at h
      refine lv_iconst (v := 0) hx hb dX3_hasCell_20 (by decide) ?_
      cases h
      exact ret_Z C w (Or.inl rfl) rfl rfl dX3_hasCell_21
    · rw [if_neg c6] at h
      refine lv_iconst (v := 1) hx hb dX3_hasCell_16 (by decide) ?_
      refine lv_goto (tgt := 21) hx hb dX3_hasCell_17 (by decide) ?_
      cases h
      exact ret_Z C w (Or.inr rfl) rfl rfl dX3_hasCell_21
set_option maxHeartbeats 4000000 in
set_option maxRecDepth 100000 in
theorem w_X3_linkDue_36 {p : Program} {l : Launch} {e : Env} {s : State} {m : MethodId} {args : Array Value} {below : List Frame} {meth : Method} {c : Code} {FA : Nat → Prop} {G : GG} {ad : Nat → Nat} {r : Int64} {I : Nat → Int32} {A : Nat → Nat → Int32} {J : Nat → Nat → Int64} (C : CX p m meth c s args yX3_linkDue cX3_linkDue 6 (some .long)) (N : Nat) : ∀ n : Nat, ∀ (v2 : Int32) (v3 : Int64) (v5 : Int32), f_X3_linkDue_36 N I A J n v2 v3 v5 = some r → ∀ (H : Heap) (locs : List Loc), WD G FA (w_X3 G ad I A J) s H locs → ∀ ls : Array Slot, lv_has ls 6 [(0, .ref (ad 0)), (2, .int v2), (3, .long v3), (5, .int v5)] → W p l e { frames := 0, cells := 0, slots := 0, locals := 0 } s m args below meth c H locs 0 0 (EnL below G FA args s (w_X3 G ad I A J) r) (F0 m 36 ls []) := by
  have hx := C.1
  have hb := C.2.1
  intro n
  induction n with
  | zero =>
    intro v2 v3 v5 h
    cases h
  | succ n ih =>
    intro v2 v3 v5 h H locs w ls hl
    rw [f_X3_linkDue_36] at h
    refine lv_iload hx hb dX3_linkDue_36 (lv_at hl 3 rfl) ?_
    refine lv_iconst (v := 3) hx hb dX3_linkDue_38 (by decide) ?_
    refine lv_icmp_gt (tgt := 72) hx hb dX3_linkDue_39 (by decide) (fun c6 => ?_) (fun c6 => ?_)
    · rw [if_pos c6] at h
      refine lv_lload_n hx hb dX3_linkDue_72 rfl (lv_at hl 2 rfl) ?_
      refine lv_lload_n hx hb dX3_linkDue_73 rfl (lv_at hl 2 rfl) ?_
      refine lv_bipush (v := (32)) hx hb dX3_linkDue_74 (by decide) ?_
      refine lv_lushr (v := uShL v3 32) hx hb dX3_linkDue_76 rfl ?_
      refine lv_lxor hx hb dX3_linkDue_77 ?_
      refine lv_lstore_n (lv' := [(3, .long (v3 ^^^ (uShL v3 32))), (0, .ref (ad 0)), (2, .int v2), (5, .int v5)]) hx hb dX3_linkDue_78 rfl hl (by decide) rfl (fun ls hl => ?_)
      refine lv_lload_n hx hb dX3_linkDue_79 rfl (lv_at hl 0 rfl) ?_
      refine lv_ldc2 hx hb C.2.2.2.2.1 (C.ts tt_280) dX3_linkDue_80 ?_
      refine lv_lmul hx hb dX3_linkDue_83 ?_
      refine lv_aload_n hx hb dX3_linkDue_84 rfl (lv_at hl 1 rfl) ?_
      refine r_get C w 0 3 0 (.ref (ad 1)) ge_X3_0 rfl inX3 (by decide) tt_142 rfl dX3_linkDue_85 ?_
      refine lv_iload_n hx hb dX3_linkDue_88 rfl (lv_at hl 2 rfl) ?_
      refine lv_iconst (v := 4) hx hb dX3_linkDue_89 (by decide) ?_
      refine lv_iadd hx hb dX3_linkDue_90 ?_
      obtain ⟨hin7, h⟩ := gdS h
      refine r_iald C w 1 (A 0 (v2 + 4).toNatClampNeg) ge_X3_1 rfl hin7 dX3_linkDue_91 ?_
      refine lv_i2l (v := i2L (A 0 (v2 + 4).toNatClampNeg)) hx hb dX3_linkDue_92 rfl ?_
      refine lv_ladd hx hb dX3_linkDue_93 ?_
      refine lv_lstore_n (lv' := [(3, .long (((v3 ^^^ (uShL v3 32)) * (-7723592293110705685)) + (i2L (A 0 (v2 + 4).toNatClampNeg)))), (0, .ref (ad 0)), (2, .int v2), (5, .int v5)]) hx hb dX3_linkDue_94 rfl hl (by decide) rfl (fun ls hl => ?_)
      refine lv_lload_n hx hb dX3_linkDue_95 rfl (lv_at hl 0 rfl) ?_
      refine lv_lload_n hx hb dX3_linkDue_96 rfl (lv_at hl 0 rfl) ?_
      refine lv_bipush (v := (31)) hx hb dX3_linkDue_97 (by decide) ?_
      refine lv_lushr (v := uShL (((v3 ^^^ (uShL v3 32)) * (-7723592293110705685)) + (i2L (A 0 (v2 + 4).toNatClampNeg))) 31) hx hb dX3_linkDue_99 rfl ?_
      refine lv_lxor hx hb dX3_linkDue_100 ?_
      cases h
      exact ret_L C w rfl rfl dX3_linkDue_101
    · rw [if_neg c6] at h
      refine lv_lload_n hx hb dX3_linkDue_42 rfl (lv_at hl 2 rfl) ?_
      refine lv_lload_n hx hb dX3_linkDue_43 rfl (lv_at hl 2 rfl) ?_
      refine lv_bipush (v := (29)) hx hb dX3_linkDue_44 (by decide) ?_
      refine lv_lushr (v := uShL v3 29) hx hb dX3_linkDue_46 rfl ?_
      refine lv_lxor hx hb dX3_linkDue_47 ?_
      refine lv_lstore_n (lv' := [(3, .long (v3 ^^^ (uShL v3 29))), (0, .ref (ad 0)), (2, .int v2), (5, .int v5)]) hx hb dX3_linkDue_48 rfl hl (by decide) rfl (fun ls hl => ?_)
      refine lv_lload_n hx hb dX3_linkDue_49 rfl (lv_at hl 0 rfl) ?_
      refine lv_ldc2 hx hb C.2.2.2.2.1 (C.ts tt_279) dX3_linkDue_50 ?_
      refine lv_lmul hx hb dX3_linkDue_53 ?_
      refine lv_aload_n hx hb dX3_linkDue_54 rfl (lv_at hl 1 rfl) ?_
      refine r_get C w 0 3 0 (.ref (ad 1)) ge_X3_0 rfl inX3 (by decide) tt_142 rfl dX3_linkDue_55 ?_
      refine lv_iload_n hx hb dX3_linkDue_58 rfl (lv_at hl 2 rfl) ?_
      refine lv_iload hx hb dX3_linkDue_59 (lv_at hl 3 rfl) ?_
      refine lv_iadd hx hb dX3_linkDue_61 ?_
      obtain ⟨hin8, h⟩ := gdS h
      refine r_iald C w 1 (A 0 (v2 + v5).toNatClampNeg) ge_X3_1 rfl hin8 dX3_linkDue_62 ?_
      refine lv_i2l (v := i2L (A 0 (v2 + v5).toNatClampNeg)) hx hb dX3_linkDue_63 rfl ?_
      refine lv_ladd hx hb dX3_linkDue_64 ?_
      refine lv_lstore_n (lv' := [(3, .long (((v3 ^^^ (uShL v3 29)) * (-4658895280553007687)) + (i2L (A 0 (v2 + v5).toNatClampNeg)))), (0, .ref (ad 0)), (2, .int v2), (5, .int v5)]) hx hb dX3_linkDue_65 rfl hl (by decide) rfl (fun ls hl => ?_)
      refine lv_iinc (v := v5 + 1) (lv' := [(5, .int (v5 + 1)), (3, .long (((v3 ^^^ (uShL v3 29)) * (-4658895280553007687)) + (i2L (A 0 (v2 + v5).toNatClampNeg)))), (0, .ref (ad 0)), (2, .int v2)]) hx hb dX3_linkDue_66 hl (k := 3) rfl rfl (by decide) rfl (fun ls hl => ?_)
      refine lv_goto (tgt := 36) hx hb dX3_linkDue_69 (by decide) ?_
      exact ih v2 (((v3 ^^^ (uShL v3 29)) * (-4658895280553007687)) + (i2L (A 0 (v2 + v5).toNatClampNeg))) (v5 + 1) h _ _ w _ (lv_sub hl [2, 3, 1, 0] rfl)
set_option maxHeartbeats 4000000 in
set_option maxRecDepth 100000 in
theorem c_X3_linkDue (l : Launch) (G : GG) (ad : Nat → Nat) (sz : Nat) (N : Nat) (I : Nat → Int32) (A : Nat → Nat → Int32) (J : Nat → Nat → Int64) (a1 : Int32) (r : Int64) (h : f_X3_linkDue N I A J a1 = some r) : CtL l yX3_linkDue cX3_linkDue 6 (some .long) { frames := 0, cells := 0, slots := 0, locals := 0 } G [.ref (ad 0), .int a1] (w_X3 G ad I A J) (w_X3 G ad I A J) sz r := by
  refine ct_of (by decide) (Nat.le_of_ble_eq_true rfl) (fun p e s m below meth c ls C w hsz hl => ?_)
  have hx := C.1
  have hb := C.2.1
  have hl : lv_has ls 6 [(0, .ref (ad 0)), (1, .int a1)] := hl
  unfold f_X3_linkDue at h
  refine lv_iload_n hx hb dX3_linkDue_0 rfl (lv_at hl 1 rfl) ?_
  refine lv_iconst (v := 5) hx hb dX3_linkDue_1 (by decide) ?_
  refine lv_imul hx hb dX3_linkDue_2 ?_
  refine lv_istore_n (lv' := [(2, .int (a1 * 5)), (0, .ref (ad 0)), (1, .int a1)]) hx hb dX3_linkDue_3 rfl hl (by decide) rfl (fun ls hl => ?_)
  refine lv_iload_n hx hb dX3_linkDue_4 rfl (lv_at hl 2 rfl) ?_
  refine lv_if_ne (tgt := 12) hx hb dX3_linkDue_5 (by decide) (fun c9 => ?_) (fun c9 => ?_)
  · rw [if_neg c9] at h
    refine lv_aload_n hx hb dX3_linkDue_12 rfl (lv_at hl 1 rfl) ?_
    refine r_get C w 0 3 1 (.ref (ad 2)) ge_X3_0 rfl inX3 (by decide) tt_144 rfl dX3_linkDue_13 ?_
    refine lv_iload_n hx hb dX3_linkDue_16 rfl (lv_at hl 2 rfl) ?_
    refine lv_iconst (v := 1) hx hb dX3_linkDue_17 (by decide) ?_
    refine lv_isub hx hb dX3_linkDue_18 ?_
    obtain ⟨hin10, h⟩ := gdS h
    refine r_lald C w 2 (J 1 (a1 - 1).toNatClampNeg) ge_X3_2 rfl hin10 dX3_linkDue_19 ?_
    refine lv_ldc2 hx hb C.2.2.2.2.1 (C.ts tt_278) dX3_linkDue_20 ?_
    refine lv_lmul hx hb dX3_linkDue_23 ?_
    refine lv_aload_n hx hb dX3_linkDue_24 rfl (lv_at hl 1 rfl) ?_
    refine r_get C w 0 3 0 (.ref (ad 1)) ge_X3_0 rfl inX3 (by decide) tt_142 rfl dX3_linkDue_25 ?_
    refine lv_iload_n hx hb dX3_linkDue_28 rfl (lv_at hl 0 rfl) ?_
    obtain ⟨hin11, h⟩ := gdS h
    refine r_iald C w 1 (A 0 (a1 * 5).toNatClampNeg) ge_X3_1 rfl hin11 dX3_linkDue_29 ?_
    refine lv_i2l (v := i2L (A 0 (a1 * 5).toNatClampNeg)) hx hb dX3_linkDue_30 rfl ?_
    refine lv_ladd hx hb dX3_linkDue_31 ?_
    refine lv_lstore_n (lv' := [(3, .long (((J 1 (a1 - 1).toNatClampNeg) * (-7046029254386353131)) + (i2L (A 0 (a1 * 5).toNatClampNeg)))), (2, .int (a1 * 5)), (0, .ref (ad 0)), (1, .int a1)]) hx hb dX3_linkDue_32 rfl hl (by decide) rfl (fun ls hl => ?_)
    refine lv_iconst (v := 1) hx hb dX3_linkDue_33 (by decide) ?_
    refine lv_istore (lv' := [(5, .int 1), (3, .long (((J 1 (a1 - 1).toNatClampNeg) * (-7046029254386353131)) + (i2L (A 0 (a1 * 5).toNatClampNeg)))), (2, .int (a1 * 5)), (0, .ref (ad 0)), (1, .int a1)]) hx hb dX3_linkDue_34 hl (by decide) rfl (fun ls hl => ?_)
    exact w_X3_linkDue_36 C N N (a1 * 5) (((J 1 (a1 - 1).toNatClampNeg) * (-7046029254386353131)) + (i2L (A 0 (a1 * 5).toNatClampNeg))) 1 h _ _ w _ (lv_sub hl [3, 2, 1, 0] rfl)
  · rw [if_pos c9] at h
    refine lv_lconst (v := 1) hx hb dX3_linkDue_8 (by decide) ?_
    refine lv_goto (tgt := 20) hx hb dX3_linkDue_9 (by decide) ?_
    refine lv_ldc2 hx hb C.2.2.2.2.1 (C.ts tt_278) dX3_linkDue_20 ?_
    refine lv_lmul hx hb dX3_linkDue_23 ?_
    refine lv_aload_n hx hb dX3_linkDue_24 rfl (lv_at hl 1 rfl) ?_
    refine r_get C w 0 3 0 (.ref (ad 1)) ge_X3_0 rfl inX3 (by decide) tt_142 rfl dX3_linkDue_25 ?_
    refine lv_iload_n hx hb dX3_linkDue_28 rfl (lv_at hl 0 rfl) ?_
    obtain ⟨hin12, h⟩ := gdS h
    refine r_iald C w 1 (A 0 (a1 * 5).toNatClampNeg) ge_X3_1 rfl hin12 dX3_linkDue_29 ?_
    refine lv_i2l (v := i2L (A 0 (a1 * 5).toNatClampNeg)) hx hb dX3_linkDue_30 rfl ?_
    refine lv_ladd hx hb dX3_linkDue_31 ?_
    refine lv_lstore_n (lv' := [(3, .long ((1 * (-7046029254386353131)) + (i2L (A 0 (a1 * 5).toNatClampNeg)))), (2, .int (a1 * 5)), (0, .ref (ad 0)), (1, .int a1)]) hx hb dX3_linkDue_32 rfl hl (by decide) rfl (fun ls hl => ?_)
    refine lv_iconst (v := 1) hx hb dX3_linkDue_33 (by decide) ?_
    refine lv_istore (lv' := [(5, .int 1), (3, .long ((1 * (-7046029254386353131)) + (i2L (A 0 (a1 * 5).toNatClampNeg)))), (2, .int (a1 * 5)), (0, .ref (ad 0)), (1, .int a1)]) hx hb dX3_linkDue_34 hl (by decide) rfl (fun ls hl => ?_)
    exact w_X3_linkDue_36 C N N (a1 * 5) ((1 * (-7046029254386353131)) + (i2L (A 0 (a1 * 5).toNatClampNeg))) 1 h _ _ w _ (lv_sub hl [3, 2, 1, 0] rfl)
set_option maxHeartbeats 4000000 in
set_option maxRecDepth 100000 in
theorem c_X3_add (l : Launch) (G : GG) (ad : Nat → Nat) (sz : Nat) (N : Nat) (I : Nat → Int32) (A : Nat → Nat → Int32) (J : Nat → Nat → Int64) (a1 : Int32) (a2 : Int32) (a3 : Int32) (a4 : Int32) (a5 : Int32) (I' : Nat → Int32) (A' : Nat → Nat → Int32) (J' : Nat → Nat → Int64) (h : f_X3_add N I A J a1 a2 a3 a4 a5 = some (I', A', J')) : CtV l yX3_add cX3_add 7 none { frames := 1, cells := 0, slots := 0, locals := 25 } G [.ref (ad 0), .int a1, .int a2, .int a3, .int a4, .int a5] (w_X3 G ad I A J) (w_X3 G ad I' A' J') sz := by
  refine ct_of (by decide) (Nat.le_of_ble_eq_true rfl) (fun p e s m below meth c ls C w hsz hl => ?_)
  have hx := C.1
  have hb := C.2.1
  have hl : lv_has ls 7 [(0, .ref (ad 0)), (1, .int a1), (2, .int a2), (3, .int a3), (4, .int a4), (5, .int a5)] := hl
  unfold f_X3_add at h
  refine lv_aload_n hx hb dX3_add_0 rfl (lv_at hl 0 rfl) ?_
  refine r_get C w 0 3 2 (.int (I 2)) ge_X3_0 rfl inX3 (by decide) tt_146 rfl dX3_add_1 ?_
  refine lv_iconst (v := 5) hx hb dX3_add_4 (by decide) ?_
  refine lv_imul hx hb dX3_add_5 ?_
  refine lv_istore (lv' := [(6, .int ((I 2) * 5)), (0, .ref (ad 0)), (1, .int a1), (2, .int a2), (3, .int a3), (4, .int a4), (5, .int a5)]) hx hb dX3_add_6 hl (by decide) rfl (fun ls hl => ?_)
  refine lv_aload_n hx hb dX3_add_8 rfl (lv_at hl 1 rfl) ?_
  refine r_get C w 0 3 0 (.ref (ad 1)) ge_X3_0 rfl inX3 (by decide) tt_142 rfl dX3_add_9 ?_
  refine lv_iload hx hb dX3_add_12 (lv_at hl 0 rfl) ?_
  refine lv_iload_n hx hb dX3_add_14 rfl (lv_at hl 2 rfl) ?_
  obtain ⟨hin8, h⟩ := gdS h
  refine r_iast C w 1 (w_X3 G ad I (aS A 0 ((I 2) * 5).toNatClampNeg a1) J) ge_X3_1 hin8 st_X3_1 dX3_add_15 (fun H locs w => ?_)
  refine lv_aload_n hx hb dX3_add_16 rfl (lv_at hl 1 rfl) ?_
  refine r_get C w 0 3 0 (.ref (ad 1)) ge_X3_0 rfl inX3 (by decide) tt_142 rfl dX3_add_17 ?_
  refine lv_iload hx hb dX3_add_20 (lv_at hl 0 rfl) ?_
  refine lv_iconst (v := 1) hx hb dX3_add_22 (by decide) ?_
  refine lv_iadd hx hb dX3_add_23 ?_
  refine lv_iload_n hx hb dX3_add_24 rfl (lv_at hl 3 rfl) ?_
  obtain ⟨hin9, h⟩ := gdS h
  refine r_iast C w 1 (w_X3 G ad I (aS (aS A 0 ((I 2) * 5).toNatClampNeg a1) 0 (((I 2) * 5) + 1).toNatClampNeg a2) J) ge_X3_1 hin9 st_X3_1 dX3_add_25 (fun H locs w => ?_)
  refine lv_aload_n hx hb dX3_add_26 rfl (lv_at hl 1 rfl) ?_
  refine r_get C w 0 3 0 (.ref (ad 1)) ge_X3_0 rfl inX3 (by decide) tt_142 rfl dX3_add_27 ?_
  refine lv_iload hx hb dX3_add_30 (lv_at hl 0 rfl) ?_
  refine lv_iconst (v := 2) hx hb dX3_add_32 (by decide) ?_
  refine lv_iadd hx hb dX3_add_33 ?_
  refine lv_iload_n hx hb dX3_add_34 rfl (lv_at hl 4 rfl) ?_
  obtain ⟨hin10, h⟩ := gdS h
  refine r_iast C w 1 (w_X3 G ad I (aS (aS (aS A 0 ((I 2) * 5).toNatClampNeg a1) 0 (((I 2) * 5) + 1).toNatClampNeg a2) 0 (((I 2) * 5) + 2).toNatClampNeg a3) J) ge_X3_1 hin10 st_X3_1 dX3_add_35 (fun H locs w => ?_)
  refine lv_aload_n hx hb dX3_add_36 rfl (lv_at hl 1 rfl) ?_
  refine r_get C w 0 3 0 (.ref (ad 1)) ge_X3_0 rfl inX3 (by decide) tt_142 rfl dX3_add_37 ?_
  refine lv_iload hx hb dX3_add_40 (lv_at hl 0 rfl) ?_
  refine lv_iconst (v := 3) hx hb dX3_add_42 (by decide) ?_
  refine lv_iadd hx hb dX3_add_43 ?_
  refine lv_iload hx hb dX3_add_44 (lv_at hl 5 rfl) ?_
  obtain ⟨hin11, h⟩ := gdS h
  refine r_iast C w 1 (w_X3 G ad I (aS (aS (aS (aS A 0 ((I 2) * 5).toNatClampNeg a1) 0 (((I 2) * 5) + 1).toNatClampNeg a2) 0 (((I 2) * 5) + 2).toNatClampNeg a3) 0 (((I 2) * 5) + 3).toNatClampNeg a4) J) ge_X3_1 hin11 st_X3_1 dX3_add_46 (fun H locs w => ?_)
  refine lv_aload_n hx hb dX3_add_47 rfl (lv_at hl 1 rfl) ?_
  refine r_get C w 0 3 0 (.ref (ad 1)) ge_X3_0 rfl inX3 (by decide) tt_142 rfl dX3_add_48 ?_
  refine lv_iload hx hb dX3_add_51 (lv_at hl 0 rfl) ?_
  refine lv_iconst (v := 4) hx hb dX3_add_53 (by decide) ?_
  refine lv_iadd hx hb dX3_add_54 ?_
  refine lv_iload hx hb dX3_add_55 (lv_at hl 6 rfl) ?_
  obtain ⟨hin12, h⟩ := gdS h
  refine r_iast C w 1 (w_X3 G ad I (aS (aS (aS (aS (aS A 0 ((I 2) * 5).toNatClampNeg a1) 0 (((I 2) * 5) + 1).toNatClampNeg a2) 0 (((I 2) * 5) + 2).toNatClampNeg a3) 0 (((I 2) * 5) + 3).toNatClampNeg a4) 0 (((I 2) * 5) + 4).toNatClampNeg a5) J) ge_X3_1 hin12 st_X3_1 dX3_add_57 (fun H locs w => ?_)
  refine lv_aload_n hx hb dX3_add_58 rfl (lv_at hl 1 rfl) ?_
  refine r_get C w 0 3 1 (.ref (ad 2)) ge_X3_0 rfl inX3 (by decide) tt_144 rfl dX3_add_59 ?_
  refine lv_aload_n hx hb dX3_add_62 rfl (lv_at hl 1 rfl) ?_
  refine r_get C w 0 3 2 (.int (I 2)) ge_X3_0 rfl inX3 (by decide) tt_146 rfl dX3_add_63 ?_
  refine lv_aload_n hx hb dX3_add_66 rfl (lv_at hl 1 rfl) ?_
  refine lv_aload_n hx hb dX3_add_67 rfl (lv_at hl 1 rfl) ?_
  refine r_get C w 0 3 2 (.int (I 2)) ge_X3_0 rfl inX3 (by decide) tt_146 rfl dX3_add_68 ?_
  obtain ⟨x13, hx13, h⟩ := bdS h
  have w0 := w.z
  refine cl_l (wc' := (w_X3 G ad I (aS (aS (aS (aS (aS A 0 ((I 2) * 5).toNatClampNeg a1) 0 (((I 2) * 5) + 1).toNatClampNeg a2) 0 (((I 2) * 5) + 2).toNatClampNeg a3) 0 (((I 2) * 5) + 3).toNatClampNeg a4) 0 (((I 2) * 5) + 4).toNatClampNeg a5) J)) w0 (run_V (As := [.int (I 2)]) (rest := [.int (I 2), .ref (ad 2)]) C w0 (c_X3_linkDue l G ad  _ N I (aS (aS (aS (aS (aS A 0 ((I 2) * 5).toNatClampNeg a1) 0 (((I 2) * 5) + 1).toNatClampNeg a2) 0 (((I 2) * 5) + 2).toNatClampNeg a3) 0 (((I 2) * 5) + 3).toNatClampNeg a4) 0 (((I 2) * 5) + 4).toNatClampNeg a5) J (I 2) x13 hx13) mt_X3_linkDue tt_274 3 rfl rfl rfl rfl ⟨Nat.le_of_ble_eq_true rfl, Nat.le_of_ble_eq_true rfl⟩ hl.1 (Nat.le_of_ble_eq_true rfl) dX3_add_71 ⟨Nat.le_of_ble_eq_true rfl, Nat.le_of_ble_eq_true rfl⟩) (fun H locs w => ?_)
  have w := w.uz
  obtain ⟨hin14, h⟩ := gdS h
  refine r_last C w 2 (w_X3 G ad I (aS (aS (aS (aS (aS A 0 ((I 2) * 5).toNatClampNeg a1) 0 (((I 2) * 5) + 1).toNatClampNeg a2) 0 (((I 2) * 5) + 2).toNatClampNeg a3) 0 (((I 2) * 5) + 3).toNatClampNeg a4) 0 (((I 2) * 5) + 4).toNatClampNeg a5) (jS J 1 (I 2).toNatClampNeg x13)) ge_X3_2 hin14 st_X3_2 dX3_add_74 (fun H locs w => ?_)
  refine lv_aload_n hx hb dX3_add_75 rfl (lv_at hl 1 rfl) ?_
  refine lv_dup hx hb dX3_add_76 rfl ?_
  refine r_get C w 0 3 2 (.int (I 2)) ge_X3_0 rfl inX3 (by decide) tt_146 rfl dX3_add_77 ?_
  refine lv_iconst (v := 1) hx hb dX3_add_80 (by decide) ?_
  refine lv_iadd hx hb dX3_add_81 ?_
  refine r_put C w 0 3 2 (w_X3 G ad (upd I 2 ((I 2) + 1)) (aS (aS (aS (aS (aS A 0 ((I 2) * 5).toNatClampNeg a1) 0 (((I 2) * 5) + 1).toNatClampNeg a2) 0 (((I 2) * 5) + 2).toNatClampNeg a3) 0 (((I 2) * 5) + 3).toNatClampNeg a4) 0 (((I 2) * 5) + 4).toNatClampNeg a5) (jS J 1 (I 2).toNatClampNeg x13)) tyX3_ok nmX3 ge_X3_0 rfl inX3 (by decide) tt_146 rfl rfl rfl (Nat.le_of_ble_eq_true rfl) st_X3_0_2 dX3_add_82 (fun H locs w => ?_)
  cases h
  exact ret_V C w rfl dX3_add_85
set_option maxHeartbeats 4000000 in
set_option maxRecDepth 100000 in
theorem w_X3_firstWrong_2 {p : Program} {l : Launch} {e : Env} {s : State} {m : MethodId} {args : Array Value} {below : List Frame} {meth : Method} {c : Code} {FA : Nat → Prop} {G : GG} {ad : Nat → Nat} {r : Int32} {I : Nat → Int32} {A : Nat → Nat → Int32} {J : Nat → Nat → Int64} (C : CX p m meth c s args yX3_firstWrong cX3_firstWrong 2 (some .int)) (N : Nat) : ∀ n : Nat, ∀ (v1 : Int32), f_X3_firstWrong_2 N I A J n v1 = some r → ∀ (H : Heap) (locs : List Loc), WD G FA (w_X3 G ad I A J) s H locs → ∀ ls : Array Slot, lv_has ls 2 [(0, .ref (ad 0)), (1, .int v1)] → W p l e { frames := 1, cells := 0, slots := 0, locals := 25 } s m args below meth c H locs 0 0 (EnI below G FA args s (w_X3 G ad I A J) r) (F0 m 2 ls []) := by
  have hx := C.1
  have hb := C.2.1
  intro n
  induction n with
  | zero =>
    intro v1 h
    cases h
  | succ n ih =>
    intro v1 h H locs w ls hl
    rw [f_X3_firstWrong_2] at h
    refine lv_iload_n hx hb dX3_firstWrong_2 rfl (lv_at hl 1 rfl) ?_
    refine lv_aload_n hx hb dX3_firstWrong_3 rfl (lv_at hl 0 rfl) ?_
    refine r_get C w 0 3 2 (.int (I 2)) ge_X3_0 rfl inX3 (by decide) tt_146 rfl dX3_firstWrong_4 ?_
    refine lv_icmp_ge (tgt := 33) hx hb dX3_firstWrong_7 (by decide) (fun c3 => ?_) (fun c3 => ?_)
    · rw [if_pos c3] at h
      refine lv_iconst (v := (-1)) hx hb dX3_firstWrong_33 (by decide) ?_
      cases h
      exact ret_I C w rfl rfl dX3_firstWrong_34
    · rw [if_neg c3] at h
      refine lv_aload_n hx hb dX3_firstWrong_10 rfl (lv_at hl 0 rfl) ?_
      refine r_get C w 0 3 1 (.ref (ad 2)) ge_X3_0 rfl inX3 (by decide) tt_144 rfl dX3_firstWrong_11 ?_
      refine lv_iload_n hx hb dX3_firstWrong_14 rfl (lv_at hl 1 rfl) ?_
      obtain ⟨hin4, h⟩ := gdS h
      refine r_lald C w 2 (J 1 v1.toNatClampNeg) ge_X3_2 rfl hin4 dX3_firstWrong_15 ?_
      refine lv_aload_n hx hb dX3_firstWrong_16 rfl (lv_at hl 0 rfl) ?_
      refine lv_iload_n hx hb dX3_firstWrong_17 rfl (lv_at hl 1 rfl) ?_
      obtain ⟨x5, hx5, h⟩ := bdS h
      have w0 := w.z
      refine cl_l (wc' := (w_X3 G ad I A J)) w0 (run_V (As := [.int v1]) (rest := [.long (J 1 v1.toNatClampNeg)]) C w0 (c_X3_linkDue l G ad  _ N I A J v1 x5 hx5) mt_X3_linkDue tt_274 3 rfl rfl rfl rfl ⟨Nat.le_of_ble_eq_true rfl, Nat.le_of_ble_eq_true rfl⟩ hl.1 (Nat.le_of_ble_eq_true rfl) dX3_firstWrong_18 ⟨Nat.le_of_ble_eq_true rfl, Nat.le_of_ble_eq_true rfl⟩) (fun H locs w => ?_)
      have w := w.uz
      refine W.lcmp hx hb dX3_firstWrong_21 ?_
      refine lv_if_eq (tgt := 27) hx hb dX3_firstWrong_22 (by decide) (fun c6 => ?_) (fun c6 => ?_)
      · rw [if_pos c6] at h
        refine lv_iinc (v := v1 + 1) (lv' := [(1, .int (v1 + 1)), (0, .ref (ad 0))]) hx hb dX3_firstWrong_27 hl (k := 1) rfl rfl (by decide) rfl (fun ls hl => ?_)
        refine lv_goto (tgt := 2) hx hb dX3_firstWrong_30 (by decide) ?_
        exact ih (v1 + 1) h _ _ w _ (lv_sub hl [1, 0] rfl)
      · rw [if_neg c6] at h
        refine lv_iload_n hx hb dX3_firstWrong_25 rfl (lv_at hl 1 rfl) ?_
        cases h
        exact ret_I C w rfl rfl dX3_firstWrong_26
set_option maxHeartbeats 4000000 in
set_option maxRecDepth 100000 in
theorem c_X3_firstWrong (l : Launch) (G : GG) (ad : Nat → Nat) (sz : Nat) (N : Nat) (I : Nat → Int32) (A : Nat → Nat → Int32) (J : Nat → Nat → Int64) (r : Int32) (h : f_X3_firstWrong N I A J = some r) : CtI l yX3_firstWrong cX3_firstWrong 2 (some .int) { frames := 1, cells := 0, slots := 0, locals := 25 } G [.ref (ad 0)] (w_X3 G ad I A J) (w_X3 G ad I A J) sz r := by
  refine ct_of (by decide) (Nat.le_of_ble_eq_true rfl) (fun p e s m below meth c ls C w hsz hl => ?_)
  have hx := C.1
  have hb := C.2.1
  have hl : lv_has ls 2 [(0, .ref (ad 0))] := hl
  unfold f_X3_firstWrong at h
  refine lv_iconst (v := 0) hx hb dX3_firstWrong_0 (by decide) ?_
  refine lv_istore_n (lv' := [(1, .int 0), (0, .ref (ad 0))]) hx hb dX3_firstWrong_1 rfl hl (by decide) rfl (fun ls hl => ?_)
  exact w_X3_firstWrong_2 C N N 0 h _ _ w _ (lv_sub hl [1, 0] rfl)
set_option maxHeartbeats 4000000 in
set_option maxRecDepth 100000 in
theorem c_X4_hasFirm (l : Launch) (G : GG) (ad : Nat → Nat) (sz : Nat) (I : Nat → Int32) (A : Nat → Nat → Int32) (a1 : Int32) (r : Int32) (h : f_X4_hasFirm I A a1 = some r) : CtI l yX4_hasFirm cX4_hasFirm 2 (some .boolean) { frames := 1, cells := 0, slots := 0, locals := 21 } G [.ref (ad 0), .int a1] (w_X4 G ad I A) (w_X4 G ad I A) sz r := by
  refine ct_of (by decide) (Nat.le_of_ble_eq_true rfl) (fun p e s m below meth c ls C w hsz hl => ?_)
  have hx := C.1
  have hb := C.2.1
  have hl : lv_has ls 2 [(0, .ref (ad 0)), (1, .int a1)] := hl
  unfold f_X4_hasFirm at h
  refine lv_iload_n hx hb dX4_hasFirm_0 rfl (lv_at hl 1 rfl) ?_
  refine lv_aload_n hx hb dX4_hasFirm_1 rfl (lv_at hl 0 rfl) ?_
  refine r_get C w 0 4 5 (.int (I 5)) ge_X4_0 rfl inX4 (by decide) tt_84 rfl dX4_hasFirm_2 ?_
  obtain ⟨x2, hx2, h⟩ := bdS h
  have w0 : WD G _ ([] ++ ([] ++ (w_X4 G ad I A))) s _ _ := w
  refine cl_i (wc' := []) w0 (run_SN (As := [.int a1, .int (I 5)]) (rest := []) C w0 (c_X5_isBelow l G  _ a1 (I 5) x2 hx2) mt_X5_isBelow nn_215 rfl rfl ⟨Nat.le_of_ble_eq_true rfl, Nat.le_of_ble_eq_true rfl⟩ hl.1 (Nat.le_of_ble_eq_true rfl) dX4_hasFirm_5 ⟨Nat.le_of_ble_eq_true rfl, Nat.le_of_ble_eq_true rfl⟩) (fun H locs w => ?_)
  have w : WD G _ (w_X4 G ad I A) s H locs := w
  obtain ⟨hbz, h⟩ := gpS h
  cases h
  exact ret_Z C w hbz rfl rfl dX4_hasFirm_8
set_option maxHeartbeats 4000000 in
set_option maxRecDepth 100000 in
theorem c_X4_hasObject (l : Launch) (G : GG) (ad : Nat → Nat) (sz : Nat) (I : Nat → Int32) (A : Nat → Nat → Int32) (a1 : Int32) (r : Int32) (h : f_X4_hasObject I A a1 = some r) : CtI l yX4_hasObject cX4_hasObject 2 (some .boolean) { frames := 1, cells := 0, slots := 0, locals := 21 } G [.ref (ad 0), .int a1] (w_X4 G ad I A) (w_X4 G ad I A) sz r := by
  refine ct_of (by decide) (Nat.le_of_ble_eq_true rfl) (fun p e s m below meth c ls C w hsz hl => ?_)
  have hx := C.1
  have hb := C.2.1
  have hl : lv_has ls 2 [(0, .ref (ad 0)), (1, .int a1)] := hl
  unfold f_X4_hasObject at h
  refine lv_iload_n hx hb dX4_hasObject_0 rfl (lv_at hl 1 rfl) ?_
  refine lv_aload_n hx hb dX4_hasObject_1 rfl (lv_at hl 0 rfl) ?_
  refine r_get C w 0 4 6 (.int (I 6)) ge_X4_0 rfl inX4 (by decide) tt_86 rfl dX4_hasObject_2 ?_
  obtain ⟨x2, hx2, h⟩ := bdS h
  have w0 : WD G _ ([] ++ ([] ++ (w_X4 G ad I A))) s _ _ := w
  refine cl_i (wc' := []) w0 (run_SN (As := [.int a1, .int (I 6)]) (rest := []) C w0 (c_X5_isBelow l G  _ a1 (I 6) x2 hx2) mt_X5_isBelow nn_215 rfl rfl ⟨Nat.le_of_ble_eq_true rfl, Nat.le_of_ble_eq_true rfl⟩ hl.1 (Nat.le_of_ble_eq_true rfl) dX4_hasObject_5 ⟨Nat.le_of_ble_eq_true rfl, Nat.le_of_ble_eq_true rfl⟩) (fun H locs w => ?_)
  have w : WD G _ (w_X4 G ad I A) s H locs := w
  obtain ⟨hbz, h⟩ := gpS h
  cases h
  exact ret_Z C w hbz rfl rfl dX4_hasObject_8
set_option maxHeartbeats 4000000 in
set_option maxRecDepth 100000 in
theorem c_X4_addFirm (l : Launch) (G : GG) (ad : Nat → Nat) (sz : Nat) (I : Nat → Int32) (A : Nat → Nat → Int32) (a1 : Int32) (r : Int32) (I' : Nat → Int32) (A' : Nat → Nat → Int32) (h : f_X4_addFirm I A a1 = some (r, I', A')) : CtI l yX4_addFirm cX4_addFirm 2 (some .int) { frames := 0, cells := 0, slots := 0, locals := 0 } G [.ref (ad 0), .int a1] (w_X4 G ad I A) (w_X4 G ad I' A') sz r := by
  refine ct_of (by decide) (Nat.le_of_ble_eq_true rfl) (fun p e s m below meth c ls C w hsz hl => ?_)
  have hx := C.1
  have hb := C.2.1
  have hl : lv_has ls 2 [(0, .ref (ad 0)), (1, .int a1)] := hl
  unfold f_X4_addFirm at h
  refine lv_aload_n hx hb dX4_addFirm_0 rfl (lv_at hl 0 rfl) ?_
  refine r_get C w 0 4 5 (.int (I 5)) ge_X4_0 rfl inX4 (by decide) tt_84 rfl dX4_addFirm_1 ?_
  refine lv_bipush (v := (24)) hx hb dX4_addFirm_4 (by decide) ?_
  refine lv_icmp_lt (tgt := 12) hx hb dX4_addFirm_6 (by decide) (fun c4 => ?_) (fun c4 => ?_)
  · rw [if_pos c4] at h
    refine lv_aload_n hx hb dX4_addFirm_12 rfl (lv_at hl 0 rfl) ?_
    refine r_get C w 0 4 0 (.ref (ad 1)) ge_X4_0 rfl inX4 (by decide) tt_76 rfl dX4_addFirm_13 ?_
    refine lv_aload_n hx hb dX4_addFirm_16 rfl (lv_at hl 0 rfl) ?_
    refine r_get C w 0 4 5 (.int (I 5)) ge_X4_0 rfl inX4 (by decide) tt_84 rfl dX4_addFirm_17 ?_
    refine lv_iload_n hx hb dX4_addFirm_20 rfl (lv_at hl 1 rfl) ?_
    obtain ⟨hin5, h⟩ := gdS h
    refine r_iast C w 1 (w_X4 G ad I (aS A 0 (I 5).toNatClampNeg a1)) ge_X4_1 hin5 st_X4_1 dX4_addFirm_21 (fun H locs w => ?_)
    refine lv_iload_n hx hb dX4_addFirm_22 rfl (lv_at hl 1 rfl) ?_
    refine lv_iconst (v := (-1)) hx hb dX4_addFirm_23 (by decide) ?_
    refine lv_icmp_eq (tgt := 42) hx hb dX4_addFirm_24 (by decide) (fun c6 => ?_) (fun c6 => ?_)
    · rw [if_pos c6] at h
      refine lv_aload_n hx hb dX4_addFirm_42 rfl (lv_at hl 0 rfl) ?_
      refine lv_dup hx hb dX4_addFirm_43 rfl ?_
      refine r_get C w 0 4 5 (.int (I 5)) ge_X4_0 rfl inX4 (by decide) tt_84 rfl dX4_addFirm_44 ?_
      refine lv_iconst (v := 1) hx hb dX4_addFirm_47 (by decide) ?_
      refine lv_iadd hx hb dX4_addFirm_48 ?_
      refine r_put C w 0 4 5 (w_X4 G ad (upd I 5 ((I 5) + 1)) (aS A 0 (I 5).toNatClampNeg a1)) tyX4_ok nmX4 ge_X4_0 rfl inX4 (by decide) tt_84 rfl rfl rfl (Nat.le_of_ble_eq_true rfl) st_X4_0_5 dX4_addFirm_49 (fun H locs w => ?_)
      refine lv_aload_n hx hb dX4_addFirm_52 rfl (lv_at hl 0 rfl) ?_
      refine r_get C w 0 4 5 (.int ((upd I 5 ((I 5) + 1)) 5)) ge_X4_0 rfl inX4 (by decide) tt_84 rfl dX4_addFirm_53 ?_
      refine lv_iconst (v := 1) hx hb dX4_addFirm_56 (by decide) ?_
      refine lv_isub hx hb dX4_addFirm_57 ?_
      cases h
      exact ret_I C w rfl rfl dX4_addFirm_58
    · rw [if_neg c6] at h
      refine lv_aload_n hx hb dX4_addFirm_27 rfl (lv_at hl 0 rfl) ?_
      refine r_get C w 0 4 1 (.ref (ad 2)) ge_X4_0 rfl inX4 (by decide) tt_77 rfl dX4_addFirm_28 ?_
      refine lv_iload_n hx hb dX4_addFirm_31 rfl (lv_at hl 1 rfl) ?_
      refine lv_dup2_11 hx hb dX4_addFirm_32 rfl rfl ?_
      obtain ⟨hin7, h⟩ := gdS h
      refine r_iald C w 2 ((aS A 0 (I 5).toNatClampNeg a1) 1 a1.toNatClampNeg) ge_X4_2 rfl hin7 dX4_addFirm_33 ?_
      refine lv_iconst (v := 1) hx hb dX4_addFirm_34 (by decide) ?_
      refine lv_aload_n hx hb dX4_addFirm_35 rfl (lv_at hl 0 rfl) ?_
      refine r_get C w 0 4 5 (.int (I 5)) ge_X4_0 rfl inX4 (by decide) tt_84 rfl dX4_addFirm_36 ?_
      refine lv_ishl hx hb dX4_addFirm_39 ?_
      refine lv_ior hx hb dX4_addFirm_40 ?_
      obtain ⟨hin8, h⟩ := gdS h
      refine r_iast C w 2 (w_X4 G ad I (aS (aS A 0 (I 5).toNatClampNeg a1) 1 a1.toNatClampNeg (((aS A 0 (I 5).toNatClampNeg a1) 1 a1.toNatClampNeg) ||| ((1 : Int32) <<< ((I 5) &&& 31))))) ge_X4_2 hin8 st_X4_2 dX4_addFirm_41 (fun H locs w => ?_)
      refine lv_aload_n hx hb dX4_addFirm_42 rfl (lv_at hl 0 rfl) ?_
      refine lv_dup hx hb dX4_addFirm_43 rfl ?_
      refine r_get C w 0 4 5 (.int (I 5)) ge_X4_0 rfl inX4 (by decide) tt_84 rfl dX4_addFirm_44 ?_
      refine lv_iconst (v := 1) hx hb dX4_addFirm_47 (by decide) ?_
      refine lv_iadd hx hb dX4_addFirm_48 ?_
      refine r_put C w 0 4 5 (w_X4 G ad (upd I 5 ((I 5) + 1)) (aS (aS A 0 (I 5).toNatClampNeg a1) 1 a1.toNatClampNeg (((aS A 0 (I 5).toNatClampNeg a1) 1 a1.toNatClampNeg) ||| ((1 : Int32) <<< ((I 5) &&& 31))))) tyX4_ok nmX4 ge_X4_0 rfl inX4 (by decide) tt_84 rfl rfl rfl (Nat.le_of_ble_eq_true rfl) st_X4_0_5 dX4_addFirm_49 (fun H locs w => ?_)
      refine lv_aload_n hx hb dX4_addFirm_52 rfl (lv_at hl 0 rfl) ?_
      refine r_get C w 0 4 5 (.int ((upd I 5 ((I 5) + 1)) 5)) ge_X4_0 rfl inX4 (by decide) tt_84 rfl dX4_addFirm_53 ?_
      refine lv_iconst (v := 1) hx hb dX4_addFirm_56 (by decide) ?_
      refine lv_isub hx hb dX4_addFirm_57 ?_
      cases h
      exact ret_I C w rfl rfl dX4_addFirm_58
  · rw [if_neg c4] at h
    refine lv_bipush (v := (-3)) hx hb dX4_addFirm_9 (by decide) ?_
    cases h
    exact ret_I C w rfl rfl dX4_addFirm_11
set_option maxHeartbeats 4000000 in
set_option maxRecDepth 100000 in
theorem c_X4_addObject (l : Launch) (G : GG) (ad : Nat → Nat) (sz : Nat) (I : Nat → Int32) (A : Nat → Nat → Int32) (a1 : Int32) (r : Int32) (I' : Nat → Int32) (A' : Nat → Nat → Int32) (h : f_X4_addObject I A a1 = some (r, I', A')) : CtI l yX4_addObject cX4_addObject 2 (some .int) { frames := 0, cells := 0, slots := 0, locals := 0 } G [.ref (ad 0), .int a1] (w_X4 G ad I A) (w_X4 G ad I' A') sz r := by
  refine ct_of (by decide) (Nat.le_of_ble_eq_true rfl) (fun p e s m below meth c ls C w hsz hl => ?_)
  have hx := C.1
  have hb := C.2.1
  have hl : lv_has ls 2 [(0, .ref (ad 0)), (1, .int a1)] := hl
  unfold f_X4_addObject at h
  refine lv_aload_n hx hb dX4_addObject_0 rfl (lv_at hl 0 rfl) ?_
  refine r_get C w 0 4 6 (.int (I 6)) ge_X4_0 rfl inX4 (by decide) tt_86 rfl dX4_addObject_1 ?_
  refine lv_bipush (v := (48)) hx hb dX4_addObject_4 (by decide) ?_
  refine lv_icmp_lt (tgt := 12) hx hb dX4_addObject_6 (by decide) (fun c2 => ?_) (fun c2 => ?_)
  · rw [if_pos c2] at h
    refine lv_aload_n hx hb dX4_addObject_12 rfl (lv_at hl 0 rfl) ?_
    refine r_get C w 0 4 2 (.ref (ad 3)) ge_X4_0 rfl inX4 (by decide) tt_78 rfl dX4_addObject_13 ?_
    refine lv_aload_n hx hb dX4_addObject_16 rfl (lv_at hl 0 rfl) ?_
    refine r_get C w 0 4 6 (.int (I 6)) ge_X4_0 rfl inX4 (by decide) tt_86 rfl dX4_addObject_17 ?_
    refine lv_iload_n hx hb dX4_addObject_20 rfl (lv_at hl 1 rfl) ?_
    obtain ⟨hin3, h⟩ := gdS h
    refine r_iast C w 3 (w_X4 G ad I (aS A 2 (I 6).toNatClampNeg a1)) ge_X4_3 hin3 st_X4_3 dX4_addObject_21 (fun H locs w => ?_)
    refine lv_aload_n hx hb dX4_addObject_22 rfl (lv_at hl 0 rfl) ?_
    refine lv_dup hx hb dX4_addObject_23 rfl ?_
    refine r_get C w 0 4 6 (.int (I 6)) ge_X4_0 rfl inX4 (by decide) tt_86 rfl dX4_addObject_24 ?_
    refine lv_iconst (v := 1) hx hb dX4_addObject_27 (by decide) ?_
    refine lv_iadd hx hb dX4_addObject_28 ?_
    refine r_put C w 0 4 6 (w_X4 G ad (upd I 6 ((I 6) + 1)) (aS A 2 (I 6).toNatClampNeg a1)) tyX4_ok nmX4 ge_X4_0 rfl inX4 (by decide) tt_86 rfl rfl rfl (Nat.le_of_ble_eq_true rfl) st_X4_0_6 dX4_addObject_29 (fun H locs w => ?_)
    refine lv_aload_n hx hb dX4_addObject_32 rfl (lv_at hl 0 rfl) ?_
    refine r_get C w 0 4 6 (.int ((upd I 6 ((I 6) + 1)) 6)) ge_X4_0 rfl inX4 (by decide) tt_86 rfl dX4_addObject_33 ?_
    refine lv_iconst (v := 1) hx hb dX4_addObject_36 (by decide) ?_
    refine lv_isub hx hb dX4_addObject_37 ?_
    cases h
    exact ret_I C w rfl rfl dX4_addObject_38
  · rw [if_neg c2] at h
    refine lv_bipush (v := (-3)) hx hb dX4_addObject_9 (by decide) ?_
    cases h
    exact ret_I C w rfl rfl dX4_addObject_11
set_option maxHeartbeats 4000000 in
set_option maxRecDepth 100000 in
theorem c_X4_letRead (l : Launch) (G : GG) (ad : Nat → Nat) (sz : Nat) (I : Nat → Int32) (A : Nat → Nat → Int32) (a1 : Int32) (a2 : Int32) (r : Int32) (h : f_X4_letRead I A a1 a2 = some r) : CtI l yX4_letRead cX4_letRead 4 (some .boolean) { frames := 1, cells := 0, slots := 0, locals := 21 } G [.ref (ad 0), .int a1, .int a2] (w_X4 G ad I A) (w_X4 G ad I A) sz r := by
  refine ct_of (by decide) (Nat.le_of_ble_eq_true rfl) (fun p e s m below meth c ls C w hsz hl => ?_)
  have hx := C.1
  have hb := C.2.1
  have hl : lv_has ls 4 [(0, .ref (ad 0)), (1, .int a1), (2, .int a2)] := hl
  unfold f_X4_letRead at h
  refine lv_aload_n hx hb dX4_letRead_0 rfl (lv_at hl 0 rfl) ?_
  refine r_get C w 0 4 0 (.ref (ad 1)) ge_X4_0 rfl inX4 (by decide) tt_76 rfl dX4_letRead_1 ?_
  refine lv_iload_n hx hb dX4_letRead_4 rfl (lv_at hl 2 rfl) ?_
  obtain ⟨hin6, h⟩ := gdS h
  refine r_iald C w 1 (A 0 a2.toNatClampNeg) ge_X4_1 rfl hin6 dX4_letRead_5 ?_
  refine lv_istore_n (lv' := [(3, .int (A 0 a2.toNatClampNeg)), (0, .ref (ad 0)), (1, .int a1), (2, .int a2)]) hx hb dX4_letRead_6 rfl hl (by decide) rfl (fun ls hl => ?_)
  refine lv_iload_n hx hb dX4_letRead_7 rfl (lv_at hl 0 rfl) ?_
  refine lv_iconst (v := (-1)) hx hb dX4_letRead_8 (by decide) ?_
  refine lv_icmp_eq (tgt := 41) hx hb dX4_letRead_9 (by decide) (fun c7 => ?_) (fun c7 => ?_)
  · rw [if_pos c7] at h
    refine lv_iconst (v := 1) hx hb dX4_letRead_41 (by decide) ?_
    refine lv_goto (tgt := 46) hx hb dX4_letRead_42 (by decide) ?_
    cases h
    exact ret_Z C w (Or.inr rfl) rfl rfl dX4_letRead_46
  · rw [if_neg c7] at h
    refine lv_aload_n hx hb dX4_letRead_12 rfl (lv_at hl 1 rfl) ?_
    refine r_get C w 0 4 3 (.ref (ad 4)) ge_X4_0 rfl inX4 (by decide) tt_80 rfl dX4_letRead_13 ?_
    refine lv_iload_n hx hb dX4_letRead_16 rfl (lv_at hl 2 rfl) ?_
    obtain ⟨hin8, h⟩ := gdS h
    refine r_iald C w 4 (A 3 a1.toNatClampNeg) ge_X4_4 rfl hin8 dX4_letRead_17 ?_
    refine lv_iload_n hx hb dX4_letRead_18 rfl (lv_at hl 3 rfl) ?_
    obtain ⟨x9, hx9, h⟩ := bdS h
    have w0 : WD G _ ([] ++ ([] ++ (w_X4 G ad I A))) s _ _ := w
    refine cl_i (wc' := []) w0 (run_SN (As := [.int (A 3 a1.toNatClampNeg), .int a2]) (rest := []) C w0 (c_X5_hasBit l G  _ (A 3 a1.toNatClampNeg) a2 x9 hx9) mt_X5_hasBit nn_240 rfl rfl ⟨Nat.le_of_ble_eq_true rfl, Nat.le_of_ble_eq_true rfl⟩ hl.1 (Nat.le_of_ble_eq_true rfl) dX4_letRead_19 ⟨Nat.le_of_ble_eq_true rfl, Nat.le_of_ble_eq_true rfl⟩) (fun H locs w => ?_)
    have w : WD G _ (w_X4 G ad I A) s H locs := w
    refine lv_if_ne (tgt := 41) hx hb dX4_letRead_22 (by decide) (fun c10 => ?_) (fun c10 => ?_)
    · rw [if_neg c10] at h
      refine lv_iconst (v := 1) hx hb dX4_letRead_41 (by decide) ?_
      refine lv_goto (tgt := 46) hx hb dX4_letRead_42 (by decide) ?_
      cases h
      exact ret_Z C w (Or.inr rfl) rfl rfl dX4_letRead_46
    · rw [if_pos c10] at h
      refine lv_aload_n hx hb dX4_letRead_25 rfl (lv_at hl 1 rfl) ?_
      refine r_get C w 0 4 3 (.ref (ad 4)) ge_X4_0 rfl inX4 (by decide) tt_80 rfl dX4_letRead_26 ?_
      refine lv_iload_n hx hb dX4_letRead_29 rfl (lv_at hl 2 rfl) ?_
      obtain ⟨hin11, h⟩ := gdS h
      refine r_iald C w 4 (A 3 a1.toNatClampNeg) ge_X4_4 rfl hin11 dX4_letRead_30 ?_
      refine lv_aload_n hx hb dX4_letRead_31 rfl (lv_at hl 1 rfl) ?_
      refine r_get C w 0 4 1 (.ref (ad 2)) ge_X4_0 rfl inX4 (by decide) tt_77 rfl dX4_letRead_32 ?_
      refine lv_iload_n hx hb dX4_letRead_35 rfl (lv_at hl 0 rfl) ?_
      obtain ⟨hin12, h⟩ := gdS h
      refine r_iald C w 2 (A 1 (A 0 a2.toNatClampNeg).toNatClampNeg) ge_X4_2 rfl hin12 dX4_letRead_36 ?_
      refine lv_iand hx hb dX4_letRead_37 ?_
      refine lv_if_ne (tgt := 45) hx hb dX4_letRead_38 (by decide) (fun c13 => ?_) (fun c13 => ?_)
      · rw [if_neg c13] at h
        refine lv_iconst (v := 0) hx hb dX4_letRead_45 (by decide) ?_
        cases h
        exact ret_Z C w (Or.inl rfl) rfl rfl dX4_letRead_46
      · rw [if_pos c13] at h
        refine lv_iconst (v := 1) hx hb dX4_letRead_41 (by decide) ?_
        refine lv_goto (tgt := 46) hx hb dX4_letRead_42 (by decide) ?_
        cases h
        exact ret_Z C w (Or.inr rfl) rfl rfl dX4_letRead_46
set_option maxHeartbeats 4000000 in
set_option maxRecDepth 100000 in
theorem c_X4_onReading (l : Launch) (G : GG) (ad : Nat → Nat) (sz : Nat) (I : Nat → Int32) (A : Nat → Nat → Int32) (a1 : Int32) (a2 : Int32) (r : Int32) (h : f_X4_onReading I A a1 a2 = some r) : CtI l yX4_onReading cX4_onReading 3 (some .int) { frames := 2, cells := 0, slots := 0, locals := 44 } G [.ref (ad 0), .int a1, .int a2] (w_X4 G ad I A) (w_X4 G ad I A) sz r := by
  refine ct_of (by decide) (Nat.le_of_ble_eq_true rfl) (fun p e s m below meth c ls C w hsz hl => ?_)
  have hx := C.1
  have hb := C.2.1
  have hl : lv_has ls 3 [(0, .ref (ad 0)), (1, .int a1), (2, .int a2)] := hl
  unfold f_X4_onReading at h
  refine lv_aload_n hx hb dX4_onReading_0 rfl (lv_at hl 0 rfl) ?_
  refine lv_iload_n hx hb dX4_onReading_1 rfl (lv_at hl 1 rfl) ?_
  refine lv_iload_n hx hb dX4_onReading_2 rfl (lv_at hl 2 rfl) ?_
  obtain ⟨x2, hx2, h⟩ := bdS h
  have w0 := w.z
  refine cl_i (wc' := (w_X4 G ad I A)) w0 (run_V (As := [.int a1, .int a2]) (rest := []) C w0 (c_X4_letRead l G ad  _ I A a1 a2 x2 hx2) mt_X4_letRead tt_236 4 rfl rfl rfl rfl ⟨Nat.le_of_ble_eq_true rfl, Nat.le_of_ble_eq_true rfl⟩ hl.1 (Nat.le_of_ble_eq_true rfl) dX4_onReading_3 ⟨Nat.le_of_ble_eq_true rfl, Nat.le_of_ble_eq_true rfl⟩) (fun H locs w => ?_)
  have w := w.uz
  refine lv_if_eq (tgt := 13) hx hb dX4_onReading_6 (by decide) (fun c3 => ?_) (fun c3 => ?_)
  · rw [if_pos c3] at h
    refine lv_bipush (v := (-11)) hx hb dX4_onReading_13 (by decide) ?_
    cases h
    exact ret_I C w rfl rfl dX4_onReading_15
  · rw [if_neg c3] at h
    refine lv_iconst (v := 0) hx hb dX4_onReading_9 (by decide) ?_
    refine lv_goto (tgt := 15) hx hb dX4_onReading_10 (by decide) ?_
    cases h
    exact ret_I C w rfl rfl dX4_onReading_15
set_option maxHeartbeats 4000000 in
set_option maxRecDepth 100000 in
theorem c_X4_onWriting (l : Launch) (G : GG) (ad : Nat → Nat) (sz : Nat) (I : Nat → Int32) (A : Nat → Nat → Int32) (a1 : Int32) (a2 : Int32) (r : Int32) (h : f_X4_onWriting I A a1 a2 = some r) : CtI l yX4_onWriting cX4_onWriting 4 (some .int) { frames := 2, cells := 0, slots := 0, locals := 44 } G [.ref (ad 0), .int a1, .int a2] (w_X4 G ad I A) (w_X4 G ad I A) sz r := by
  refine ct_of (by decide) (Nat.le_of_ble_eq_true rfl) (fun p e s m below meth c ls C w hsz hl => ?_)
  have hx := C.1
  have hb := C.2.1
  have hl : lv_has ls 4 [(0, .ref (ad 0)), (1, .int a1), (2, .int a2)] := hl
  unfold f_X4_onWriting at h
  refine lv_aload_n hx hb dX4_onWriting_0 rfl (lv_at hl 0 rfl) ?_
  refine lv_iload_n hx hb dX4_onWriting_1 rfl (lv_at hl 1 rfl) ?_
  refine lv_iload_n hx hb dX4_onWriting_2 rfl (lv_at hl 2 rfl) ?_
  obtain ⟨x4, hx4, h⟩ := bdS h
  have w0 := w.z
  refine cl_i (wc' := (w_X4 G ad I A)) w0 (run_V (As := [.int a1, .int a2]) (rest := []) C w0 (c_X4_letRead l G ad  _ I A a1 a2 x4 hx4) mt_X4_letRead tt_236 4 rfl rfl rfl rfl ⟨Nat.le_of_ble_eq_true rfl, Nat.le_of_ble_eq_true rfl⟩ hl.1 (Nat.le_of_ble_eq_true rfl) dX4_onWriting_3 ⟨Nat.le_of_ble_eq_true rfl, Nat.le_of_ble_eq_true rfl⟩) (fun H locs w => ?_)
  have w := w.uz
  refine lv_if_ne (tgt := 12) hx hb dX4_onWriting_6 (by decide) (fun c5 => ?_) (fun c5 => ?_)
  · rw [if_neg c5] at h
    refine lv_aload_n hx hb dX4_onWriting_12 rfl (lv_at hl 0 rfl) ?_
    refine r_get C w 0 4 3 (.ref (ad 4)) ge_X4_0 rfl inX4 (by decide) tt_80 rfl dX4_onWriting_13 ?_
    refine lv_iload_n hx hb dX4_onWriting_16 rfl (lv_at hl 1 rfl) ?_
    obtain ⟨hin6, h⟩ := gdS h
    refine r_iald C w 4 (A 3 a1.toNatClampNeg) ge_X4_4 rfl hin6 dX4_onWriting_17 ?_
    refine lv_aload_n hx hb dX4_onWriting_18 rfl (lv_at hl 0 rfl) ?_
    refine r_get C w 0 4 4 (.ref (ad 5)) ge_X4_0 rfl inX4 (by decide) tt_82 rfl dX4_onWriting_19 ?_
    refine lv_iload_n hx hb dX4_onWriting_22 rfl (lv_at hl 1 rfl) ?_
    obtain ⟨hin7, h⟩ := gdS h
    refine r_iald C w 5 (A 4 a1.toNatClampNeg) ge_X4_5 rfl hin7 dX4_onWriting_23 ?_
    refine lv_ior hx hb dX4_onWriting_24 ?_
    refine lv_iconst (v := 1) hx hb dX4_onWriting_25 (by decide) ?_
    refine lv_iload_n hx hb dX4_onWriting_26 rfl (lv_at hl 2 rfl) ?_
    refine lv_ishl hx hb dX4_onWriting_27 ?_
    refine lv_iconst (v := (-1)) hx hb dX4_onWriting_28 (by decide) ?_
    refine lv_ixor hx hb dX4_onWriting_29 ?_
    refine lv_iand hx hb dX4_onWriting_30 ?_
    refine lv_istore_n (lv' := [(3, .int (((A 3 a1.toNatClampNeg) ||| (A 4 a1.toNatClampNeg)) &&& (((1 : Int32) <<< (a2 &&& 31)) ^^^ (-1)))), (0, .ref (ad 0)), (1, .int a1), (2, .int a2)]) hx hb dX4_onWriting_31 rfl hl (by decide) rfl (fun ls hl => ?_)
    refine lv_iload_n hx hb dX4_onWriting_32 rfl (lv_at hl 0 rfl) ?_
    refine lv_if_ne (tgt := 40) hx hb dX4_onWriting_33 (by decide) (fun c8 => ?_) (fun c8 => ?_)
    · rw [if_neg c8] at h
      refine lv_bipush (v := (-12)) hx hb dX4_onWriting_40 (by decide) ?_
      cases h
      exact ret_I C w rfl rfl dX4_onWriting_42
    · rw [if_pos c8] at h
      refine lv_iconst (v := 0) hx hb dX4_onWriting_36 (by decide) ?_
      refine lv_goto (tgt := 42) hx hb dX4_onWriting_37 (by decide) ?_
      cases h
      exact ret_I C w rfl rfl dX4_onWriting_42
  · rw [if_pos c5] at h
    refine lv_bipush (v := (-11)) hx hb dX4_onWriting_9 (by decide) ?_
    cases h
    exact ret_I C w rfl rfl dX4_onWriting_11
set_option maxHeartbeats 4000000 in
set_option maxRecDepth 100000 in
theorem c_X4_teachFirm (l : Launch) (G : GG) (ad : Nat → Nat) (sz : Nat) (I : Nat → Int32) (A : Nat → Nat → Int32) (a1 : Int32) (a2 : Int32) (I' : Nat → Int32) (A' : Nat → Nat → Int32) (h : f_X4_teachFirm I A a1 a2 = some (I', A')) : CtV l yX4_teachFirm cX4_teachFirm 3 none { frames := 0, cells := 0, slots := 0, locals := 0 } G [.ref (ad 0), .int a1, .int a2] (w_X4 G ad I A) (w_X4 G ad I' A') sz := by
  refine ct_of (by decide) (Nat.le_of_ble_eq_true rfl) (fun p e s m below meth c ls C w hsz hl => ?_)
  have hx := C.1
  have hb := C.2.1
  have hl : lv_has ls 3 [(0, .ref (ad 0)), (1, .int a1), (2, .int a2)] := hl
  unfold f_X4_teachFirm at h
  refine lv_aload_n hx hb dX4_teachFirm_0 rfl (lv_at hl 0 rfl) ?_
  refine r_get C w 0 4 0 (.ref (ad 1)) ge_X4_0 rfl inX4 (by decide) tt_76 rfl dX4_teachFirm_1 ?_
  refine lv_iload_n hx hb dX4_teachFirm_4 rfl (lv_at hl 2 rfl) ?_
  obtain ⟨hin4, h⟩ := gdS h
  refine r_iald C w 1 (A 0 a2.toNatClampNeg) ge_X4_1 rfl hin4 dX4_teachFirm_5 ?_
  refine lv_iconst (v := (-1)) hx hb dX4_teachFirm_6 (by decide) ?_
  refine lv_icmp_eq (tgt := 22) hx hb dX4_teachFirm_7 (by decide) (fun c5 => ?_) (fun c5 => ?_)
  · rw [if_pos c5] at h
    cases h
    exact ret_V C w rfl dX4_teachFirm_22
  · rw [if_neg c5] at h
    refine lv_aload_n hx hb dX4_teachFirm_10 rfl (lv_at hl 0 rfl) ?_
    refine r_get C w 0 4 3 (.ref (ad 4)) ge_X4_0 rfl inX4 (by decide) tt_80 rfl dX4_teachFirm_11 ?_
    refine lv_iload_n hx hb dX4_teachFirm_14 rfl (lv_at hl 1 rfl) ?_
    refine lv_dup2_11 hx hb dX4_teachFirm_15 rfl rfl ?_
    obtain ⟨hin6, h⟩ := gdS h
    refine r_iald C w 4 (A 3 a1.toNatClampNeg) ge_X4_4 rfl hin6 dX4_teachFirm_16 ?_
    refine lv_iconst (v := 1) hx hb dX4_teachFirm_17 (by decide) ?_
    refine lv_iload_n hx hb dX4_teachFirm_18 rfl (lv_at hl 2 rfl) ?_
    refine lv_ishl hx hb dX4_teachFirm_19 ?_
    refine lv_ior hx hb dX4_teachFirm_20 ?_
    obtain ⟨hin7, h⟩ := gdS h
    refine r_iast C w 4 (w_X4 G ad I (aS A 3 a1.toNatClampNeg ((A 3 a1.toNatClampNeg) ||| ((1 : Int32) <<< (a2 &&& 31))))) ge_X4_4 hin7 st_X4_4 dX4_teachFirm_21 (fun H locs w => ?_)
    cases h
    exact ret_V C w rfl dX4_teachFirm_22
set_option maxHeartbeats 4000000 in
set_option maxRecDepth 100000 in
theorem c_X4_showFirm (l : Launch) (G : GG) (ad : Nat → Nat) (sz : Nat) (I : Nat → Int32) (A : Nat → Nat → Int32) (a1 : Int32) (a2 : Int32) (I' : Nat → Int32) (A' : Nat → Nat → Int32) (h : f_X4_showFirm I A a1 a2 = some (I', A')) : CtV l yX4_showFirm cX4_showFirm 3 none { frames := 0, cells := 0, slots := 0, locals := 0 } G [.ref (ad 0), .int a1, .int a2] (w_X4 G ad I A) (w_X4 G ad I' A') sz := by
  refine ct_of (by decide) (Nat.le_of_ble_eq_true rfl) (fun p e s m below meth c ls C w hsz hl => ?_)
  have hx := C.1
  have hb := C.2.1
  have hl : lv_has ls 3 [(0, .ref (ad 0)), (1, .int a1), (2, .int a2)] := hl
  unfold f_X4_showFirm at h
  refine lv_aload_n hx hb dX4_showFirm_0 rfl (lv_at hl 0 rfl) ?_
  refine r_get C w 0 4 4 (.ref (ad 5)) ge_X4_0 rfl inX4 (by decide) tt_82 rfl dX4_showFirm_1 ?_
  refine lv_iload_n hx hb dX4_showFirm_4 rfl (lv_at hl 1 rfl) ?_
  refine lv_dup2_11 hx hb dX4_showFirm_5 rfl rfl ?_
  obtain ⟨hin3, h⟩ := gdS h
  refine r_iald C w 5 (A 4 a1.toNatClampNeg) ge_X4_5 rfl hin3 dX4_showFirm_6 ?_
  refine lv_iconst (v := 1) hx hb dX4_showFirm_7 (by decide) ?_
  refine lv_iload_n hx hb dX4_showFirm_8 rfl (lv_at hl 2 rfl) ?_
  refine lv_ishl hx hb dX4_showFirm_9 ?_
  refine lv_ior hx hb dX4_showFirm_10 ?_
  obtain ⟨hin4, h⟩ := gdS h
  refine r_iast C w 5 (w_X4 G ad I (aS A 4 a1.toNatClampNeg ((A 4 a1.toNatClampNeg) ||| ((1 : Int32) <<< (a2 &&& 31))))) ge_X4_5 hin4 st_X4_5 dX4_showFirm_11 (fun H locs w => ?_)
  cases h
  exact ret_V C w rfl dX4_showFirm_12
