def f_X5_task_12 (I : Nat → Int32) (KI : Nat → Int32) (KA : Nat → Nat → Int32) (v2 : Int32) (v3 : Int32) : Option (Int32 × (Nat → Int32) × (Nat → Int32) × (Nat → Nat → Int32)) := (f_X5_isBelow v2 8).bind (fun x1 => (if x1 = 0 then some ((-2), I, KI, KA) else (f_X2_taskBits KI KA).bind (fun x3 => (if (v3 &&& (x3 ^^^ (-1))) = 0 then (f_X2_addTask KI KA v2 v3).bind (fun x5 => some (x5.1, I, x5.2.1, x5.2.2)) else some ((-2), I, KI, KA)))))
def f_X5_apart_12 (I : Nat → Int32) (KI : Nat → Int32) (KA : Nat → Nat → Int32) (v2 : Int32) (v3 : Int32) : Option (Int32 × (Nat → Int32) × (Nat → Int32) × (Nat → Nat → Int32)) := (f_X2_arePair KI KA v2 v3).bind (fun x1 => (if x1 = 0 then some ((-2), I, KI, KA) else (f_X5_joinPair (KA 2) v2 v3).bind (fun x3 => some (x3.1, I, KI, aW KA 2 x3.2))))
def f_X5_bound_12 (I : Nat → Int32) (KI : Nat → Int32) (KA : Nat → Nat → Int32) (v2 : Int32) (v3 : Int32) : Option (Int32 × (Nat → Int32) × (Nat → Int32) × (Nat → Nat → Int32)) := (f_X2_arePair KI KA v2 v3).bind (fun x1 => (if x1 = 0 then some ((-2), I, KI, KA) else (f_X5_joinPair (KA 3) v2 v3).bind (fun x3 => some (x3.1, I, KI, aW KA 3 x3.2))))
def f_X5_most_10 (I : Nat → Int32) (KI : Nat → Int32) (KA : Nat → Nat → Int32) (v2 : Int32) : Option (Int32 × (Nat → Int32) × (Nat → Int32) × (Nat → Nat → Int32)) := (if v2 < 1 then some ((-2), I, KI, KA) else (if v2 ≤ 6 then some (KI 5, I, upd KI 5 v2, KA) else some ((-2), I, KI, KA)))
def f_X5_perform_12 (N : Nat) (I : Nat → Int32) (D : Nat → Int32) (KI : Nat → Int32) (KA : Nat → Nat → Int32) (RL : Nat → Int32) (LI : Nat → Int32) (LA : Nat → Nat → Int32) (LJ : Nat → Nat → Int64) (v1 : Int32) (v2 : Int32) (v3 : Int32) : Option (Int32 × (Nat → Int32) × (Nat → Int32) × (Nat → Int32) × (Nat → Nat → Int32) × (Nat → Int32) × (Nat → Int32) × (Nat → Nat → Int32) × (Nat → Nat → Int64)) := (f_X2_hasTask KI KA v1).bind (fun x1 => (if x1 = 0 then some ((-2), I, D, KI, KA, RL, LI, LA, LJ) else (f_X5_isUser v3).bind (fun x3 => (if x3 = 0 then some ((-2), I, D, KI, KA, RL, LI, LA, LJ) else (f_X0_verdict N D KI KA RL v1 v3).bind (fun x5 => (if x5.1 = 0 then (f_X3_isFull LI LA LJ).bind (fun x7 => (if x7 = 0 then gd v1 6 ((f_X3_add N LI LA LJ 5 v3 ((8 * v2) + v1) 0 (I 8)).bind (fun x10 => (f_X0_leftBits N (upd x5.2.1 v1.toNatClampNeg v3) x5.2.2.1 x5.2.2.2.1 x5.2.2.2.2).bind (fun x11 => (f_J6_bitCount_0f7a4 x11).bind (fun x12 => some (x12, I, upd x5.2.1 v1.toNatClampNeg v3, x5.2.2.1, x5.2.2.2.1, x5.2.2.2.2, x10.1, x10.2.1, x10.2.2))))) else some ((-3), I, x5.2.1, x5.2.2.1, x5.2.2.2.1, x5.2.2.2.2, LI, LA, LJ))) else some (x5.1, I, x5.2.1, x5.2.2.1, x5.2.2.2.1, x5.2.2.2.2, LI, LA, LJ)))))))
def f_X5_canEnd_13 (N : Nat) (I : Nat → Int32) (D : Nat → Int32) (KI : Nat → Int32) (KA : Nat → Nat → Int32) (RL : Nat → Int32) (LI : Nat → Int32) (LA : Nat → Nat → Int32) (LJ : Nat → Nat → Int64)  : Option (Int32) := (f_X0_couldEnd N D KI KA RL).bind (fun x1 => (f_X5_asNumber x1).bind (fun x2 => some (x2)))
def f_X5_doer_10 (I : Nat → Int32) (D : Nat → Int32) (KI : Nat → Int32) (KA : Nat → Nat → Int32) (RL : Nat → Int32) (LI : Nat → Int32) (LA : Nat → Nat → Int32) (LJ : Nat → Nat → Int64) (v1 : Int32) : Option (Int32) := (f_X2_hasTask KI KA v1).bind (fun x1 => (if x1 = 0 then some ((-2)) else gd v1 6 (some (D v1.toNatClampNeg))))
set_option maxHeartbeats 4000000 in
set_option maxRecDepth 100000 in
theorem w_X5_task_12 {p : Program} {l : Launch} {e : Env} {s : State} {m : MethodId} {args : Array Value} {below : List Frame} {meth : Method} {c : Code} {FA : Nat → Prop} {G : GG} {ad kd : Nat → Nat} {tl : va_W} {r : Int32} {I' : Nat → Int32} {KI' : Nat → Int32} {KA' : Nat → Nat → Int32}  (C : CX p m meth c s args yX5_task cX5_task 5 (some .int)) : ∀ (I : Nat → Int32) (KI : Nat → Int32) (KA : Nat → Nat → Int32) (v2 : Int32) (v3 : Int32), f_X5_task_12 I KI KA v2 v3 = some (r, I', KI', KA') → ∀ (H : Heap) (locs : List Loc), WD G FA (w_XK G ad kd I KI KA tl) s H locs → ∀ ls : Array Slot, lv_has ls 5 [(2, .int v2), (3, .int v3), (4, .ref (kd 0))] → W p l e { frames := 3, cells := 0, slots := 0, locals := 64 } s m args below meth c H locs 0 0 (EnI below G FA args s (w_XK G ad kd I' KI' KA' tl) r) (F0 m 12 ls []) := by
  have hx := C.1
  have hb := C.2.1
  intro I KI KA v2 v3 h H locs w ls hl
  unfold f_X5_task_12 at h
  refine lv_iload_n hx hb dX5_task_12 rfl (lv_at hl 0 rfl) ?_
  refine lv_bipush (v := (8)) hx hb dX5_task_13 (by decide) ?_
  obtain ⟨x1, hx1, h⟩ := bdS h
  have w0 : WD G _ ([] ++ ([] ++ (w_XK G ad kd I KI KA tl))) s _ _ := w
  refine cl_i (wc' := []) w0 (run_S (As := [.int v2, .int 8]) (rest := []) C w0 (c_X5_isBelow l G  _ v2 8 x1 hx1) mt_X5_isBelow tt_196 rfl rfl ⟨Nat.le_of_ble_eq_true rfl, Nat.le_of_ble_eq_true rfl⟩ hl.1 (Nat.le_of_ble_eq_true rfl) dX5_task_15 ⟨Nat.le_of_ble_eq_true rfl, Nat.le_of_ble_eq_true rfl⟩) (fun H locs w => ?_)
  have w : WD G _ (w_XK G ad kd I KI KA tl) s H locs := w
  refine lv_if_eq (tgt := 33) hx hb dX5_task_18 (by decide) (fun c2 => ?_) (fun c2 => ?_)
  · rw [if_pos c2] at h
    refine lv_bipush (v := (-2)) hx hb dX5_task_33 (by decide) ?_
    cases h
    exact ret_I C w rfl rfl dX5_task_35
  · rw [if_neg c2] at h
    refine lv_iload_n hx hb dX5_task_21 rfl (lv_at hl 1 rfl) ?_
    refine lv_aload hx hb dX5_task_22 (lv_at hl 2 rfl) ?_
    obtain ⟨x3, hx3, h⟩ := bdS h
    have w0 := w.cut 1 6 (wc := (w_X2 G kd KI KA)) rfl
    refine cl_i (wc' := (w_X2 G kd KI KA)) w0 (run_VN (As := []) (rest := [.int v3]) C w0 (c_X2_taskBits l G kd  _ KI KA x3 hx3) mt_X2_taskBits nn_377 2 rfl rfl rfl rfl ⟨Nat.le_of_ble_eq_true rfl, Nat.le_of_ble_eq_true rfl⟩ hl.1 (Nat.le_of_ble_eq_true rfl) dX5_task_24 ⟨Nat.le_of_ble_eq_true rfl, Nat.le_of_ble_eq_true rfl⟩) (fun H locs w => ?_)
    have w : WD G _ (w_XK G ad kd I KI KA tl) s H locs := w
    refine lv_iconst (v := (-1)) hx hb dX5_task_27 (by decide) ?_
    refine lv_ixor hx hb dX5_task_28 ?_
    refine lv_iand hx hb dX5_task_29 ?_
    refine lv_if_eq (tgt := 36) hx hb dX5_task_30 (by decide) (fun c4 => ?_) (fun c4 => ?_)
    · rw [if_pos c4] at h
      refine lv_aload hx hb dX5_task_36 (lv_at hl 2 rfl) ?_
      refine lv_iload_n hx hb dX5_task_38 rfl (lv_at hl 0 rfl) ?_
      refine lv_iload_n hx hb dX5_task_39 rfl (lv_at hl 1 rfl) ?_
      obtain ⟨x5, hx5, h⟩ := bdS h
      have w0 := w.cut 1 6 (wc := (w_X2 G kd KI KA)) rfl
      refine cl_i (wc' := (w_X2 G kd x5.2.1 x5.2.2)) w0 (run_VN (As := [.int v2, .int v3]) (rest := []) C w0 (c_X2_addTask l G kd  _ KI KA v2 v3 x5.1 x5.2.1 x5.2.2 hx5) mt_X2_addTask nn_381 2 rfl rfl rfl rfl ⟨Nat.le_of_ble_eq_true rfl, Nat.le_of_ble_eq_true rfl⟩ hl.1 (Nat.le_of_ble_eq_true rfl) dX5_task_40 ⟨Nat.le_of_ble_eq_true rfl, Nat.le_of_ble_eq_true rfl⟩) (fun H locs w => ?_)
      have w : WD G _ (w_XK G ad kd I x5.2.1 x5.2.2 tl) s H locs := w
      cases h
      exact ret_I C w rfl rfl dX5_task_43
    · rw [if_neg c4] at h
      refine lv_bipush (v := (-2)) hx hb dX5_task_33 (by decide) ?_
      cases h
      exact ret_I C w rfl rfl dX5_task_35
set_option maxHeartbeats 4000000 in
set_option maxRecDepth 100000 in
theorem w_X5_apart_12 {p : Program} {l : Launch} {e : Env} {s : State} {m : MethodId} {args : Array Value} {below : List Frame} {meth : Method} {c : Code} {FA : Nat → Prop} {G : GG} {ad kd : Nat → Nat} {tl : va_W} {r : Int32} {I' : Nat → Int32} {KI' : Nat → Int32} {KA' : Nat → Nat → Int32}  (C : CX p m meth c s args yX5_apart cX5_apart 5 (some .int)) : ∀ (I : Nat → Int32) (KI : Nat → Int32) (KA : Nat → Nat → Int32) (v2 : Int32) (v3 : Int32), f_X5_apart_12 I KI KA v2 v3 = some (r, I', KI', KA') → ∀ (H : Heap) (locs : List Loc), WD G FA (w_XK G ad kd I KI KA tl) s H locs → ∀ ls : Array Slot, lv_has ls 5 [(2, .int v2), (3, .int v3), (4, .ref (kd 0))] → W p l e { frames := 3, cells := 0, slots := 0, locals := 64 } s m args below meth c H locs 0 0 (EnI below G FA args s (w_XK G ad kd I' KI' KA' tl) r) (F0 m 12 ls []) := by
  have hx := C.1
  have hb := C.2.1
  intro I KI KA v2 v3 h H locs w ls hl
  unfold f_X5_apart_12 at h
  refine lv_aload hx hb dX5_apart_12 (lv_at hl 2 rfl) ?_
  refine lv_iload_n hx hb dX5_apart_14 rfl (lv_at hl 0 rfl) ?_
  refine lv_iload_n hx hb dX5_apart_15 rfl (lv_at hl 1 rfl) ?_
  obtain ⟨x1, hx1, h⟩ := bdS h
  have w0 := w.cut 1 6 (wc := (w_X2 G kd KI KA)) rfl
  refine cl_i (wc' := (w_X2 G kd KI KA)) w0 (run_VN (As := [.int v2, .int v3]) (rest := []) C w0 (c_X2_arePair l G kd  _ KI KA v2 v3 x1 hx1) mt_X2_arePair nn_389 2 rfl rfl rfl rfl ⟨Nat.le_of_ble_eq_true rfl, Nat.le_of_ble_eq_true rfl⟩ hl.1 (Nat.le_of_ble_eq_true rfl) dX5_apart_16 ⟨Nat.le_of_ble_eq_true rfl, Nat.le_of_ble_eq_true rfl⟩) (fun H locs w => ?_)
  have w : WD G _ (w_XK G ad kd I KI KA tl) s H locs := w
  refine lv_if_ne (tgt := 25) hx hb dX5_apart_19 (by decide) (fun c2 => ?_) (fun c2 => ?_)
  · rw [if_neg c2] at h
    refine lv_aload hx hb dX5_apart_25 (lv_at hl 2 rfl) ?_
    refine r_getN C w 1 2 2 (.ref (kd 3)) ge_XK_1 rfl inX2 (by decide) nn_339 rfl dX5_apart_27 ?_
    refine lv_iload_n hx hb dX5_apart_30 rfl (lv_at hl 0 rfl) ?_
    refine lv_iload_n hx hb dX5_apart_31 rfl (lv_at hl 1 rfl) ?_
    obtain ⟨x3, hx3, h⟩ := bdS h
    have w0 := w.cut 4 5 (wc := (w_XP G (fun _ => kd 3) (KA 2))) rfl
    refine cl_i (wc' := (w_XP G (fun _ => kd 3) x3.2)) w0 (run_S (As := [.ref (kd 3), .int v2, .int v3]) (rest := []) C w0 (c_X5_joinPair l G (fun _ => kd 3)  _ (KA 2) v2 v3 x3.1 x3.2 hx3) mt_X5_joinPair tt_398 rfl rfl ⟨Nat.le_of_ble_eq_true rfl, Nat.le_of_ble_eq_true rfl⟩ hl.1 (Nat.le_of_ble_eq_true rfl) dX5_apart_32 ⟨Nat.le_of_ble_eq_true rfl, Nat.le_of_ble_eq_true rfl⟩) (fun H locs w => ?_)
    have w : WD G _ (w_XK G ad kd I KI (aW KA 2 x3.2) tl) s H locs := w
    cases h
    exact ret_I C w rfl rfl dX5_apart_35
  · rw [if_pos c2] at h
    refine lv_bipush (v := (-2)) hx hb dX5_apart_22 (by decide) ?_
    cases h
    exact ret_I C w rfl rfl dX5_apart_24
set_option maxHeartbeats 4000000 in
set_option maxRecDepth 100000 in
theorem w_X5_bound_12 {p : Program} {l : Launch} {e : Env} {s : State} {m : MethodId} {args : Array Value} {below : List Frame} {meth : Method} {c : Code} {FA : Nat → Prop} {G : GG} {ad kd : Nat → Nat} {tl : va_W} {r : Int32} {I' : Nat → Int32} {KI' : Nat → Int32} {KA' : Nat → Nat → Int32}  (C : CX p m meth c s args yX5_bound cX5_bound 5 (some .int)) : ∀ (I : Nat → Int32) (KI : Nat → Int32) (KA : Nat → Nat → Int32) (v2 : Int32) (v3 : Int32), f_X5_bound_12 I KI KA v2 v3 = some (r, I', KI', KA') → ∀ (H : Heap) (locs : List Loc), WD G FA (w_XK G ad kd I KI KA tl) s H locs → ∀ ls : Array Slot, lv_has ls 5 [(2, .int v2), (3, .int v3), (4, .ref (kd 0))] → W p l e { frames := 3, cells := 0, slots := 0, locals := 64 } s m args below meth c H locs 0 0 (EnI below G FA args s (w_XK G ad kd I' KI' KA' tl) r) (F0 m 12 ls []) := by
  have hx := C.1
  have hb := C.2.1
  intro I KI KA v2 v3 h H locs w ls hl
  unfold f_X5_bound_12 at h
  refine lv_aload hx hb dX5_bound_12 (lv_at hl 2 rfl) ?_
  refine lv_iload_n hx hb dX5_bound_14 rfl (lv_at hl 0 rfl) ?_
  refine lv_iload_n hx hb dX5_bound_15 rfl (lv_at hl 1 rfl) ?_
  obtain ⟨x1, hx1, h⟩ := bdS h
  have w0 := w.cut 1 6 (wc := (w_X2 G kd KI KA)) rfl
  refine cl_i (wc' := (w_X2 G kd KI KA)) w0 (run_VN (As := [.int v2, .int v3]) (rest := []) C w0 (c_X2_arePair l G kd  _ KI KA v2 v3 x1 hx1) mt_X2_arePair nn_389 2 rfl rfl rfl rfl ⟨Nat.le_of_ble_eq_true rfl, Nat.le_of_ble_eq_true rfl⟩ hl.1 (Nat.le_of_ble_eq_true rfl) dX5_bound_16 ⟨Nat.le_of_ble_eq_true rfl, Nat.le_of_ble_eq_true rfl⟩) (fun H locs w => ?_)
  have w : WD G _ (w_XK G ad kd I KI KA tl) s H locs := w
  refine lv_if_ne (tgt := 25) hx hb dX5_bound_19 (by decide) (fun c2 => ?_) (fun c2 => ?_)
  · rw [if_neg c2] at h
    refine lv_aload hx hb dX5_bound_25 (lv_at hl 2 rfl) ?_
    refine r_getN C w 1 2 3 (.ref (kd 4)) ge_XK_1 rfl inX2 (by decide) nn_342 rfl dX5_bound_27 ?_
    refine lv_iload_n hx hb dX5_bound_30 rfl (lv_at hl 0 rfl) ?_
    refine lv_iload_n hx hb dX5_bound_31 rfl (lv_at hl 1 rfl) ?_
    obtain ⟨x3, hx3, h⟩ := bdS h
    have w0 := w.cut 5 6 (wc := (w_XP G (fun _ => kd 4) (KA 3))) rfl
    refine cl_i (wc' := (w_XP G (fun _ => kd 4) x3.2)) w0 (run_S (As := [.ref (kd 4), .int v2, .int v3]) (rest := []) C w0 (c_X5_joinPair l G (fun _ => kd 4)  _ (KA 3) v2 v3 x3.1 x3.2 hx3) mt_X5_joinPair tt_398 rfl rfl ⟨Nat.le_of_ble_eq_true rfl, Nat.le_of_ble_eq_true rfl⟩ hl.1 (Nat.le_of_ble_eq_true rfl) dX5_bound_32 ⟨Nat.le_of_ble_eq_true rfl, Nat.le_of_ble_eq_true rfl⟩) (fun H locs w => ?_)
    have w : WD G _ (w_XK G ad kd I KI (aW KA 3 x3.2) tl) s H locs := w
    cases h
    exact ret_I C w rfl rfl dX5_bound_35
  · rw [if_pos c2] at h
    refine lv_bipush (v := (-2)) hx hb dX5_bound_22 (by decide) ?_
    cases h
    exact ret_I C w rfl rfl dX5_bound_24
set_option maxHeartbeats 4000000 in
set_option maxRecDepth 100000 in
theorem w_X5_most_10 {p : Program} {l : Launch} {e : Env} {s : State} {m : MethodId} {args : Array Value} {below : List Frame} {meth : Method} {c : Code} {FA : Nat → Prop} {G : GG} {ad kd : Nat → Nat} {tl : va_W} {r : Int32} {I' : Nat → Int32} {KI' : Nat → Int32} {KA' : Nat → Nat → Int32}  (C : CX p m meth c s args yX5_most cX5_most 5 (some .int)) : ∀ (I : Nat → Int32) (KI : Nat → Int32) (KA : Nat → Nat → Int32) (v2 : Int32), f_X5_most_10 I KI KA v2 = some (r, I', KI', KA') → ∀ (H : Heap) (locs : List Loc), WD G FA (w_XK G ad kd I KI KA tl) s H locs → ∀ ls : Array Slot, lv_has ls 5 [(2, .int v2), (3, .ref (kd 0))] → W p l e { frames := 3, cells := 0, slots := 0, locals := 64 } s m args below meth c H locs 0 0 (EnI below G FA args s (w_XK G ad kd I' KI' KA' tl) r) (F0 m 10 ls []) := by
  have hx := C.1
  have hb := C.2.1
  intro I KI KA v2 h H locs w ls hl
  unfold f_X5_most_10 at h
  refine lv_iload_n hx hb dX5_most_10 rfl (lv_at hl 0 rfl) ?_
  refine lv_iconst (v := 1) hx hb dX5_most_11 (by decide) ?_
  refine lv_icmp_lt (tgt := 21) hx hb dX5_most_12 (by decide) (fun c1 => ?_) (fun c1 => ?_)
  · rw [if_pos c1] at h
    refine lv_bipush (v := (-2)) hx hb dX5_most_21 (by decide) ?_
    cases h
    exact ret_I C w rfl rfl dX5_most_23
  · rw [if_neg c1] at h
    refine lv_iload_n hx hb dX5_most_15 rfl (lv_at hl 0 rfl) ?_
    refine lv_bipush (v := (6)) hx hb dX5_most_16 (by decide) ?_
    refine lv_icmp_le (tgt := 24) hx hb dX5_most_18 (by decide) (fun c2 => ?_) (fun c2 => ?_)
    · rw [if_pos c2] at h
      refine lv_aload_n hx hb dX5_most_24 rfl (lv_at hl 1 rfl) ?_
      refine r_getN C w 1 2 5 (.int (KI 5)) ge_XK_1 rfl inX2 (by decide) nn_348 rfl dX5_most_25 ?_
      refine lv_istore (lv' := [(4, .int (KI 5)), (2, .int v2), (3, .ref (kd 0))]) hx hb dX5_most_28 hl (by decide) rfl (fun ls hl => ?_)
      refine lv_aload_n hx hb dX5_most_30 rfl (lv_at hl 2 rfl) ?_
      refine lv_iload_n hx hb dX5_most_31 rfl (lv_at hl 1 rfl) ?_
      refine r_putN C w 1 2 5 (w_XK G ad kd I (upd KI 5 v2) KA tl) tyX2_ok nmX2 ge_XK_1 rfl inX2 (by decide) nn_348 rfl rfl rfl (Nat.le_of_ble_eq_true rfl) st_XK_1_5 dX5_most_32 (fun H locs w => ?_)
      refine lv_iload hx hb dX5_most_35 (lv_at hl 0 rfl) ?_
      cases h
      exact ret_I C w rfl rfl dX5_most_37
    · rw [if_neg c2] at h
      refine lv_bipush (v := (-2)) hx hb dX5_most_21 (by decide) ?_
      cases h
      exact ret_I C w rfl rfl dX5_most_23
set_option maxHeartbeats 4000000 in
set_option maxRecDepth 100000 in
theorem w_X5_perform_12 {p : Program} {l : Launch} {e : Env} {s : State} {m : MethodId} {args : Array Value} {below : List Frame} {meth : Method} {c : Code} {FA : Nat → Prop} {G : GG} {ad cd kd : Nat → Nat} {tl : va_W} {r : Int32} {I' : Nat → Int32} {D' : Nat → Int32} {KI' : Nat → Int32} {KA' : Nat → Nat → Int32} {RL' : Nat → Int32} {LI' : Nat → Int32} {LA' : Nat → Nat → Int32} {LJ' : Nat → Nat → Int64}  (C : CX p m meth c s args yX5_perform cX5_perform 6 (some .int)) (N : Nat) : ∀ (I : Nat → Int32) (D : Nat → Int32) (KI : Nat → Int32) (KA : Nat → Nat → Int32) (RL : Nat → Int32) (LI : Nat → Int32) (LA : Nat → Nat → Int32) (LJ : Nat → Nat → Int64) (v1 : Int32) (v2 : Int32) (v3 : Int32), f_X5_perform_12 N I D KI KA RL LI LA LJ v1 v2 v3 = some (r, I', D', KI', KA', RL', LI', LA', LJ') → ∀ (H : Heap) (locs : List Loc), WD G FA (w_XC G ad cd kd I D KI KA RL LI LA LJ tl) s H locs → ∀ ls : Array Slot, lv_has ls 6 [(0, .ref (ad 0)), (1, .int v1), (2, .int v2), (3, .int v3), (4, .ref (cd 0))] → W p l e { frames := 6, cells := 0, slots := 0, locals := 146 } s m args below meth c H locs 0 0 (EnI below G FA args s (w_XC G ad cd kd I' D' KI' KA' RL' LI' LA' LJ' tl) r) (F0 m 12 ls []) := by
  have hx := C.1
  have hb := C.2.1
  intro I D KI KA RL LI LA LJ v1 v2 v3 h H locs w ls hl
  unfold f_X5_perform_12 at h
  refine lv_aload hx hb dX5_perform_12 (lv_at hl 4 rfl) ?_
  refine r_getN C w 1 0 0 (.ref (kd 0)) ge_XC_1 rfl inX0 (by decide) nn_419 rfl dX5_perform_14 ?_
  refine lv_iload_n hx hb dX5_perform_17 rfl (lv_at hl 1 rfl) ?_
  obtain ⟨x1, hx1, h⟩ := bdS h
  have w0 := w.cut 3 8 (wc := (w_X2 G kd KI KA)) rfl
  refine cl_i (wc' := (w_X2 G kd KI KA)) w0 (run_VN (As := [.int v1]) (rest := []) C w0 (c_X2_hasTask l G kd  _ KI KA v1 x1 hx1) mt_X2_hasTask nn_435 2 rfl rfl rfl rfl ⟨Nat.le_of_ble_eq_true rfl, Nat.le_of_ble_eq_true rfl⟩ hl.1 (Nat.le_of_ble_eq_true rfl) dX5_perform_18 ⟨Nat.le_of_ble_eq_true rfl, Nat.le_of_ble_eq_true rfl⟩) (fun H locs w => ?_)
  have w : WD G _ (w_XC G ad cd kd I D KI KA RL LI LA LJ tl) s H locs := w
  refine lv_if_eq (tgt := 31) hx hb dX5_perform_21 (by decide) (fun c2 => ?_) (fun c2 => ?_)
  · rw [if_pos c2] at h
    refine lv_bipush (v := (-2)) hx hb dX5_perform_31 (by decide) ?_
    cases h
    exact ret_I C w rfl rfl dX5_perform_33
  · rw [if_neg c2] at h
    refine lv_iload_n hx hb dX5_perform_24 rfl (lv_at hl 3 rfl) ?_
    obtain ⟨x3, hx3, h⟩ := bdS h
    have w0 : WD G _ ([] ++ ([] ++ (w_XC G ad cd kd I D KI KA RL LI LA LJ tl))) s _ _ := w
    refine cl_i (wc' := []) w0 (run_S (As := [.int v3]) (rest := []) C w0 (c_X5_isUser l G  _ v3 x3 hx3) mt_X5_isUser tt_193 rfl rfl ⟨Nat.le_of_ble_eq_true rfl, Nat.le_of_ble_eq_true rfl⟩ hl.1 (Nat.le_of_ble_eq_true rfl) dX5_perform_25 ⟨Nat.le_of_ble_eq_true rfl, Nat.le_of_ble_eq_true rfl⟩) (fun H locs w => ?_)
    have w : WD G _ (w_XC G ad cd kd I D KI KA RL LI LA LJ tl) s H locs := w
    refine lv_if_ne (tgt := 34) hx hb dX5_perform_28 (by decide) (fun c4 => ?_) (fun c4 => ?_)
    · rw [if_neg c4] at h
      refine lv_aload hx hb dX5_perform_34 (lv_at hl 4 rfl) ?_
      refine lv_iload_n hx hb dX5_perform_36 rfl (lv_at hl 1 rfl) ?_
      refine lv_iload_n hx hb dX5_perform_37 rfl (lv_at hl 3 rfl) ?_
      refine lv_aload_n hx hb dX5_perform_38 rfl (lv_at hl 0 rfl) ?_
      refine r_get C w 0 5 0 (.ref (ad 1)) ge_XC_0 rfl inX5 (by decide) tt_156 rfl dX5_perform_39 ?_
      obtain ⟨x5, hx5, h⟩ := bdS h
      have w0 := w.cut 1 9 (wc := (w_X0 G (adC cd kd (ad 1)) D KI KA RL)) rfl
      refine cl_i (wc' := (w_X0 G (adC cd kd (ad 1)) x5.2.1 x5.2.2.1 x5.2.2.2.1 x5.2.2.2.2)) w0 (run_VN (As := [.int v1, .int v3, .ref (ad 1)]) (rest := []) C w0 (c_X0_verdict l G (adC cd kd (ad 1))  _ N D KI KA RL v1 v3 x5.1 x5.2.1 x5.2.2.1 x5.2.2.2.1 x5.2.2.2.2 hx5) mt_X0_verdict nn_436 0 rfl rfl rfl rfl ⟨Nat.le_of_ble_eq_true rfl, Nat.le_of_ble_eq_true rfl⟩ hl.1 (Nat.le_of_ble_eq_true rfl) dX5_perform_42 ⟨Nat.le_of_ble_eq_true rfl, Nat.le_of_ble_eq_true rfl⟩) (fun H locs w => ?_)
      have w : WD G _ (w_XC G ad cd kd I x5.2.1 x5.2.2.1 x5.2.2.2.1 x5.2.2.2.2 LI LA LJ tl) s H locs := w
      refine lv_istore (lv' := [(5, .int x5.1), (0, .ref (ad 0)), (1, .int v1), (2, .int v2), (3, .int v3), (4, .ref (cd 0))]) hx hb dX5_perform_45 hl (by decide) rfl (fun ls hl => ?_)
      refine lv_iload hx hb dX5_perform_47 (lv_at hl 0 rfl) ?_
      refine lv_if_eq (tgt := 55) hx hb dX5_perform_49 (by decide) (fun c6 => ?_) (fun c6 => ?_)
      · rw [if_pos c6] at h
        refine lv_aload_n hx hb dX5_perform_55 rfl (lv_at hl 1 rfl) ?_
        refine r_get C w 0 5 5 (.ref (ad 13)) ge_XC_0 rfl inX5 (by decide) tt_161 rfl dX5_perform_56 ?_
        obtain ⟨x7, hx7, h⟩ := bdS h
        have w0 := w.cut 9 12 (wc := (w_X3 G (fun i => ad (13 + i)) LI LA LJ)) rfl
        refine cl_i (wc' := (w_X3 G (fun i => ad (13 + i)) LI LA LJ)) w0 (run_VN (As := []) (rest := []) C w0 (c_X3_isFull l G (fun i => ad (13 + i))  _ LI LA LJ x7 hx7) mt_X3_isFull nn_255 3 rfl rfl rfl rfl ⟨Nat.le_of_ble_eq_true rfl, Nat.le_of_ble_eq_true rfl⟩ hl.1 (Nat.le_of_ble_eq_true rfl) dX5_perform_59 ⟨Nat.le_of_ble_eq_true rfl, Nat.le_of_ble_eq_true rfl⟩) (fun H locs w => ?_)
        have w : WD G _ (w_XC G ad cd kd I x5.2.1 x5.2.2.1 x5.2.2.2.1 x5.2.2.2.2 LI LA LJ tl) s H locs := w
        refine lv_if_eq (tgt := 68) hx hb dX5_perform_62 (by decide) (fun c8 => ?_) (fun c8 => ?_)
        · rw [if_pos c8] at h
          refine lv_aload hx hb dX5_perform_68 (lv_at hl 5 rfl) ?_
          refine r_getN C w 1 0 1 (.ref (cd 1)) ge_XC_1 rfl inX0 (by decide) nn_421 rfl dX5_perform_70 ?_
          refine lv_iload_n hx hb dX5_perform_73 rfl (lv_at hl 2 rfl) ?_
          refine lv_iload_n hx hb dX5_perform_74 rfl (lv_at hl 4 rfl) ?_
          obtain ⟨hin9, h⟩ := gdS h
          refine r_iast C w 2 (w_XC G ad cd kd I (upd x5.2.1 v1.toNatClampNeg v3) x5.2.2.1 x5.2.2.2.1 x5.2.2.2.2 LI LA LJ tl) ge_XC_2 hin9 st_XC_2 dX5_perform_75 (fun H locs w => ?_)
          refine lv_aload_n hx hb dX5_perform_76 rfl (lv_at hl 1 rfl) ?_
          refine r_get C w 0 5 5 (.ref (ad 13)) ge_XC_0 rfl inX5 (by decide) tt_161 rfl dX5_perform_77 ?_
          refine lv_iconst (v := 5) hx hb dX5_perform_80 (by decide) ?_
          refine lv_iload_n hx hb dX5_perform_81 rfl (lv_at hl 4 rfl) ?_
          refine lv_bipush (v := (8)) hx hb dX5_perform_82 (by decide) ?_
          refine lv_iload_n hx hb dX5_perform_84 rfl (lv_at hl 3 rfl) ?_
          refine lv_imul hx hb dX5_perform_85 ?_
          refine lv_iload_n hx hb dX5_perform_86 rfl (lv_at hl 2 rfl) ?_
          refine lv_iadd hx hb dX5_perform_87 ?_
          refine lv_iconst (v := 0) hx hb dX5_perform_88 (by decide) ?_
          refine lv_aload_n hx hb dX5_perform_89 rfl (lv_at hl 1 rfl) ?_
          refine r_get C w 0 5 8 (.int (I 8)) ge_XC_0 rfl inX5 (by decide) tt_164 rfl dX5_perform_90 ?_
          obtain ⟨x10, hx10, h⟩ := bdS h
          have w0 := w.cut 9 12 (wc := (w_X3 G (fun i => ad (13 + i)) LI LA LJ)) rfl
          refine cl_v (wc' := (w_X3 G (fun i => ad (13 + i)) x10.1 x10.2.1 x10.2.2)) w0 (run_VN (As := [.int 5, .int v3, .int ((8 * v2) + v1), .int 0, .int (I 8)]) (rest := []) C w0 (c_X3_add l G (fun i => ad (13 + i))  _ N LI LA LJ 5 v3 ((8 * v2) + v1) 0 (I 8) x10.1 x10.2.1 x10.2.2 hx10) mt_X3_add nn_270 3 rfl rfl rfl rfl ⟨Nat.le_of_ble_eq_true rfl, Nat.le_of_ble_eq_true rfl⟩ hl.1 (Nat.le_of_ble_eq_true rfl) dX5_perform_93 ⟨Nat.le_of_ble_eq_true rfl, Nat.le_of_ble_eq_true rfl⟩) (fun H locs w => ?_)
          have w : WD G _ (w_XC G ad cd kd I (upd x5.2.1 v1.toNatClampNeg v3) x5.2.2.1 x5.2.2.2.1 x5.2.2.2.2 x10.1 x10.2.1 x10.2.2 tl) s H locs := w
          refine lv_aload hx hb dX5_perform_96 (lv_at hl 5 rfl) ?_
          obtain ⟨x11, hx11, h⟩ := bdS h
          have w0 := w.cut 1 9 (wc := (w_X0 G (adC cd kd (ad 1)) (upd x5.2.1 v1.toNatClampNeg v3) x5.2.2.1 x5.2.2.2.1 x5.2.2.2.2)) rfl
          refine cl_i (wc' := (w_X0 G (adC cd kd (ad 1)) (upd x5.2.1 v1.toNatClampNeg v3) x5.2.2.1 x5.2.2.2.1 x5.2.2.2.2)) w0 (run_VN (As := []) (rest := []) C w0 (c_X0_leftBits l G (adC cd kd (ad 1))  _ N (upd x5.2.1 v1.toNatClampNeg v3) x5.2.2.1 x5.2.2.2.1 x5.2.2.2.2 x11 hx11) mt_X0_leftBits nn_484 0 rfl rfl rfl rfl ⟨Nat.le_of_ble_eq_true rfl, Nat.le_of_ble_eq_true rfl⟩ hl.1 (Nat.le_of_ble_eq_true rfl) dX5_perform_98 ⟨Nat.le_of_ble_eq_true rfl, Nat.le_of_ble_eq_true rfl⟩) (fun H locs w => ?_)
          have w : WD G _ (w_XC G ad cd kd I (upd x5.2.1 v1.toNatClampNeg v3) x5.2.2.1 x5.2.2.2.1 x5.2.2.2.2 x10.1 x10.2.1 x10.2.2 tl) s H locs := w
          obtain ⟨x12, hx12, h⟩ := bdS h
          have w0 : WD G _ ([] ++ ([] ++ (w_XC G ad cd kd I (upd x5.2.1 v1.toNatClampNeg v3) x5.2.2.1 x5.2.2.2.1 x5.2.2.2.2 x10.1 x10.2.1 x10.2.2 tl))) s _ _ := w
          refine cl_i (wc' := []) w0 (run_S (As := [.int x11]) (rest := []) C w0 (c_J6_bitCount_0f7a4 l G  _ x11 x12 hx12) mt_J6_bitCount_0f7a4 tt_485 rfl rfl ⟨Nat.le_of_ble_eq_true rfl, Nat.le_of_ble_eq_true rfl⟩ hl.1 (Nat.le_of_ble_eq_true rfl) dX5_perform_101 ⟨Nat.le_of_ble_eq_true rfl, Nat.le_of_ble_eq_true rfl⟩) (fun H locs w => ?_)
          have w : WD G _ (w_XC G ad cd kd I (upd x5.2.1 v1.toNatClampNeg v3) x5.2.2.1 x5.2.2.2.1 x5.2.2.2.2 x10.1 x10.2.1 x10.2.2 tl) s H locs := w
          cases h
          exact ret_I C w rfl rfl dX5_perform_104
        · rw [if_neg c8] at h
          refine lv_bipush (v := (-3)) hx hb dX5_perform_65 (by decide) ?_
          cases h
          exact ret_I C w rfl rfl dX5_perform_67
      · rw [if_neg c6] at h
        refine lv_iload hx hb dX5_perform_52 (lv_at hl 0 rfl) ?_
        cases h
        exact ret_I C w rfl rfl dX5_perform_54
    · rw [if_pos c4] at h
      refine lv_bipush (v := (-2)) hx hb dX5_perform_31 (by decide) ?_
      cases h
      exact ret_I C w rfl rfl dX5_perform_33
set_option maxHeartbeats 4000000 in
set_option maxRecDepth 100000 in
theorem w_X5_canEnd_13 {p : Program} {l : Launch} {e : Env} {s : State} {m : MethodId} {args : Array Value} {below : List Frame} {meth : Method} {c : Code} {FA : Nat → Prop} {G : GG} {ad cd kd : Nat → Nat} {tl : va_W} {r : Int32} {I : Nat → Int32} {D : Nat → Int32} {KI : Nat → Int32} {KA : Nat → Nat → Int32} {RL : Nat → Int32} {LI : Nat → Int32} {LA : Nat → Nat → Int32} {LJ : Nat → Nat → Int64} (C : CX p m meth c s args yX5_canEnd cX5_canEnd 3 (some .int)) (N : Nat) : f_X5_canEnd_13 N I D KI KA RL LI LA LJ  = some r → ∀ (H : Heap) (locs : List Loc), WD G FA (w_XC G ad cd kd I D KI KA RL LI LA LJ tl) s H locs → ∀ ls : Array Slot, lv_has ls 3 [(0, .ref (ad 0)), (2, .ref (cd 0))] → W p l e { frames := 4, cells := 0, slots := 0, locals := 97 } s m args below meth c H locs 0 0 (EnI below G FA args s (w_XC G ad cd kd I D KI KA RL LI LA LJ tl) r) (F0 m 13 ls []) := by
  have hx := C.1
  have hb := C.2.1
  intro  h H locs w ls hl
  unfold f_X5_canEnd_13 at h
  refine lv_aload_n hx hb dX5_canEnd_13 rfl (lv_at hl 1 rfl) ?_
  refine lv_aload_n hx hb dX5_canEnd_14 rfl (lv_at hl 0 rfl) ?_
  refine r_get C w 0 5 0 (.ref (ad 1)) ge_XC_0 rfl inX5 (by decide) tt_156 rfl dX5_canEnd_15 ?_
  obtain ⟨x1, hx1, h⟩ := bdS h
  have w0 := w.cut 1 9 (wc := (w_X0 G (adC cd kd (ad 1)) D KI KA RL)) rfl
  refine cl_i (wc' := (w_X0 G (adC cd kd (ad 1)) D KI KA RL)) w0 (run_VN (As := [.ref (ad 1)]) (rest := []) C w0 (c_X0_couldEnd l G (adC cd kd (ad 1))  _ N D KI KA RL x1 hx1) mt_X0_couldEnd nn_490 0 rfl rfl rfl rfl ⟨Nat.le_of_ble_eq_true rfl, Nat.le_of_ble_eq_true rfl⟩ hl.1 (Nat.le_of_ble_eq_true rfl) dX5_canEnd_18 ⟨Nat.le_of_ble_eq_true rfl, Nat.le_of_ble_eq_true rfl⟩) (fun H locs w => ?_)
  have w : WD G _ (w_XC G ad cd kd I D KI KA RL LI LA LJ tl) s H locs := w
  obtain ⟨x2, hx2, h⟩ := bdS h
  have w0 : WD G _ ([] ++ ([] ++ (w_XC G ad cd kd I D KI KA RL LI LA LJ tl))) s _ _ := w
  refine cl_i (wc' := []) w0 (run_S (As := [.int x1]) (rest := []) C w0 (c_X5_asNumber l G  _ x1 x2 hx2) mt_X5_asNumber tt_267 rfl rfl ⟨Nat.le_of_ble_eq_true rfl, Nat.le_of_ble_eq_true rfl⟩ hl.1 (Nat.le_of_ble_eq_true rfl) dX5_canEnd_21 ⟨Nat.le_of_ble_eq_true rfl, Nat.le_of_ble_eq_true rfl⟩) (fun H locs w => ?_)
  have w : WD G _ (w_XC G ad cd kd I D KI KA RL LI LA LJ tl) s H locs := w
  cases h
  exact ret_I C w rfl rfl dX5_canEnd_24
set_option maxHeartbeats 4000000 in
set_option maxRecDepth 100000 in
theorem w_X5_doer_10 {p : Program} {l : Launch} {e : Env} {s : State} {m : MethodId} {args : Array Value} {below : List Frame} {meth : Method} {c : Code} {FA : Nat → Prop} {G : GG} {ad cd kd : Nat → Nat} {tl : va_W} {r : Int32} {I : Nat → Int32} {D : Nat → Int32} {KI : Nat → Int32} {KA : Nat → Nat → Int32} {RL : Nat → Int32} {LI : Nat → Int32} {LA : Nat → Nat → Int32} {LJ : Nat → Nat → Int64} (C : CX p m meth c s args yX5_doer cX5_doer 4 (some .int)) : ∀ (v1 : Int32), f_X5_doer_10 I D KI KA RL LI LA LJ v1 = some r → ∀ (H : Heap) (locs : List Loc), WD G FA (w_XC G ad cd kd I D KI KA RL LI LA LJ tl) s H locs → ∀ ls : Array Slot, lv_has ls 4 [(1, .int v1), (3, .ref (cd 0))] → W p l e { frames := 2, cells := 0, slots := 0, locals := 42 } s m args below meth c H locs 0 0 (EnI below G FA args s (w_XC G ad cd kd I D KI KA RL LI LA LJ tl) r) (F0 m 10 ls []) := by
  have hx := C.1
  have hb := C.2.1
  intro v1 h H locs w ls hl
  unfold f_X5_doer_10 at h
  refine lv_aload_n hx hb dX5_doer_10 rfl (lv_at hl 1 rfl) ?_
  refine r_getN C w 1 0 0 (.ref (kd 0)) ge_XC_1 rfl inX0 (by decide) nn_419 rfl dX5_doer_11 ?_
  refine lv_iload_n hx hb dX5_doer_14 rfl (lv_at hl 0 rfl) ?_
  obtain ⟨x1, hx1, h⟩ := bdS h
  have w0 := w.cut 3 8 (wc := (w_X2 G kd KI KA)) rfl
  refine cl_i (wc' := (w_X2 G kd KI KA)) w0 (run_VN (As := [.int v1]) (rest := []) C w0 (c_X2_hasTask l G kd  _ KI KA v1 x1 hx1) mt_X2_hasTask nn_435 2 rfl rfl rfl rfl ⟨Nat.le_of_ble_eq_true rfl, Nat.le_of_ble_eq_true rfl⟩ hl.1 (Nat.le_of_ble_eq_true rfl) dX5_doer_15 ⟨Nat.le_of_ble_eq_true rfl, Nat.le_of_ble_eq_true rfl⟩) (fun H locs w => ?_)
  have w : WD G _ (w_XC G ad cd kd I D KI KA RL LI LA LJ tl) s H locs := w
  refine lv_if_ne (tgt := 24) hx hb dX5_doer_18 (by decide) (fun c2 => ?_) (fun c2 => ?_)
  · rw [if_neg c2] at h
    refine lv_aload_n hx hb dX5_doer_24 rfl (lv_at hl 1 rfl) ?_
    refine r_getN C w 1 0 1 (.ref (cd 1)) ge_XC_1 rfl inX0 (by decide) nn_421 rfl dX5_doer_25 ?_
    refine lv_iload_n hx hb dX5_doer_28 rfl (lv_at hl 0 rfl) ?_
    obtain ⟨hin3, h⟩ := gdS h
    refine r_iald C w 2 (D v1.toNatClampNeg) ge_XC_2 rfl hin3 dX5_doer_29 ?_
    cases h
    exact ret_I C w rfl rfl dX5_doer_30
  · rw [if_pos c2] at h
    refine lv_bipush (v := (-2)) hx hb dX5_doer_21 (by decide) ?_
    cases h
    exact ret_I C w rfl rfl dX5_doer_23
