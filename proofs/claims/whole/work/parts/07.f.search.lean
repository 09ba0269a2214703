set_option maxHeartbeats 4000000 in
set_option maxRecDepth 100000 in
theorem w_X6_isFit_80 {p : Program} {l : Launch} {e : Env} {s : State} {m : MethodId} {args : Array Value} {below : List Frame} {meth : Method} {c : Code} {FA : Nat → Prop} {G : GG} {ad : Nat → Nat} {r : Int32} {I : Nat → Int32} {A : Nat → Nat → Int32} {J : Nat → Nat → Int64} (C : CX p m meth c s args yX6_isFit cX6_isFit 5 (some .boolean)) (N : Nat) : ∀ n : Nat, ∀ (v1 : Int32) (v2 : Int32) (v3 : Int32) (v4 : Int32), f_X6_isFit_80 N I A J n v1 v2 v3 v4 = some r → ∀ (H : Heap) (locs : List Loc), WD G FA (w_X6 G ad I A J) s H locs → ∀ ls : Array Slot, lv_has ls 5 [(0, .ref (ad 0)), (1, .int v1), (2, .int v2), (3, .int v3), (4, .int v4)] → W p l e { frames := 2, cells := 0, slots := 0, locals := 43 } s m args below meth c H locs 0 0 (EnI below G FA args s (w_X6 G ad I A J) r) (F0 m 80 ls []) := by
  have hx := C.1
  have hb := C.2.1
  intro n
  induction n with
  | zero =>
    intro v1 v2 v3 v4 h
    cases h
  | succ n ih =>
    intro v1 v2 v3 v4 h H locs w ls hl
    rw [f_X6_isFit_80] at h
    refine lv_iload hx hb dX6_isFit_80 (lv_at hl 4 rfl) ?_
    refine lv_iload_n hx hb dX6_isFit_82 rfl (lv_at hl 2 rfl) ?_
    refine lv_icmp_gt (tgt := 116) hx hb dX6_isFit_83 (by decide) (fun c10 => ?_) (fun c10 => ?_)
    · rw [if_pos c10] at h
      refine lv_iload_n hx hb dX6_isFit_116 rfl (lv_at hl 3 rfl) ?_
      refine lv_aload_n hx hb dX6_isFit_117 rfl (lv_at hl 0 rfl) ?_
      refine r_get C w 0 6 18 (.ref (ad 15)) ge_X6_0 rfl inX6 (by decide) tt_562 rfl dX6_isFit_118 ?_
      refine lv_iload_n hx hb dX6_isFit_121 rfl (lv_at hl 1 rfl) ?_
      obtain ⟨hin11, h⟩ := gdS h
      refine r_iald C w 15 (A 18 v1.toNatClampNeg) ge_X6_15 rfl hin11 dX6_isFit_122 ?_
      refine lv_icmp_gt (tgt := 130) hx hb dX6_isFit_123 (by decide) (fun c12 => ?_) (fun c12 => ?_)
      · rw [if_pos c12] at h
        refine lv_iconst (v := 0) hx hb dX6_isFit_130 (by decide) ?_
        cases h
        exact ret_Z C w (Or.inl rfl) rfl rfl dX6_isFit_131
      · rw [if_neg c12] at h
        refine lv_iconst (v := 1) hx hb dX6_isFit_126 (by decide) ?_
        refine lv_goto (tgt := 131) hx hb dX6_isFit_127 (by decide) ?_
        cases h
        exact ret_Z C w (Or.inr rfl) rfl rfl dX6_isFit_131
    · rw [if_neg c10] at h
      refine lv_aload_n hx hb dX6_isFit_86 rfl (lv_at hl 0 rfl) ?_
      refine r_get C w 0 6 26 (.ref (ad 20)) ge_X6_0 rfl inX6 (by decide) tt_570 rfl dX6_isFit_87 ?_
      refine lv_iload hx hb dX6_isFit_90 (lv_at hl 4 rfl) ?_
      obtain ⟨hin13, h⟩ := gdS h
      refine r_iald C w 20 (A 26 v4.toNatClampNeg) ge_X6_20 rfl hin13 dX6_isFit_92 ?_
      refine lv_aload_n hx hb dX6_isFit_93 rfl (lv_at hl 0 rfl) ?_
      refine r_get C w 0 6 26 (.ref (ad 20)) ge_X6_0 rfl inX6 (by decide) tt_570 rfl dX6_isFit_94 ?_
      refine lv_iload_n hx hb dX6_isFit_97 rfl (lv_at hl 2 rfl) ?_
      obtain ⟨hin14, h⟩ := gdS h
      refine r_iald C w 20 (A 26 v2.toNatClampNeg) ge_X6_20 rfl hin14 dX6_isFit_98 ?_
      refine lv_icmp_ne (tgt := 108) hx hb dX6_isFit_99 (by decide) (fun c15 => ?_) (fun c15 => ?_)
      · rw [if_neg c15] at h
        refine lv_iload_n hx hb dX6_isFit_108 rfl (lv_at hl 3 rfl) ?_
        refine lv_istore_n (lv' := [(3, .int v3), (0, .ref (ad 0)), (1, .int v1), (2, .int v2), (4, .int v4)]) hx hb dX6_isFit_109 rfl hl (by decide) rfl (fun ls hl => ?_)
        refine lv_iinc (v := v4 + 1) (lv' := [(4, .int (v4 + 1)), (3, .int v3), (0, .ref (ad 0)), (1, .int v1), (2, .int v2)]) hx hb dX6_isFit_110 hl (k := 4) rfl rfl (by decide) rfl (fun ls hl => ?_)
        refine lv_goto (tgt := 80) hx hb dX6_isFit_113 (by decide) ?_
        exact ih v1 v2 v3 (v4 + 1) h _ _ w _ (lv_sub hl [2, 3, 4, 1, 0] rfl)
      · rw [if_pos c15] at h
        refine lv_iload_n hx hb dX6_isFit_102 rfl (lv_at hl 3 rfl) ?_
        refine lv_iconst (v := 1) hx hb dX6_isFit_103 (by decide) ?_
        refine lv_iadd hx hb dX6_isFit_104 ?_
        refine lv_goto (tgt := 109) hx hb dX6_isFit_105 (by decide) ?_
        refine lv_istore_n (lv' := [(3, .int (v3 + 1)), (0, .ref (ad 0)), (1, .int v1), (2, .int v2), (4, .int v4)]) hx hb dX6_isFit_109 rfl hl (by decide) rfl (fun ls hl => ?_)
        refine lv_iinc (v := v4 + 1) (lv' := [(4, .int (v4 + 1)), (3, .int (v3 + 1)), (0, .ref (ad 0)), (1, .int v1), (2, .int v2)]) hx hb dX6_isFit_110 hl (k := 4) rfl rfl (by decide) rfl (fun ls hl => ?_)
        refine lv_goto (tgt := 80) hx hb dX6_isFit_113 (by decide) ?_
        exact ih v1 v2 (v3 + 1) (v4 + 1) h _ _ w _ (lv_sub hl [2, 3, 4, 1, 0] rfl)
set_option maxHeartbeats 4000000 in
set_option maxRecDepth 100000 in
theorem w_X6_isFit_48 {p : Program} {l : Launch} {e : Env} {s : State} {m : MethodId} {args : Array Value} {below : List Frame} {meth : Method} {c : Code} {FA : Nat → Prop} {G : GG} {ad : Nat → Nat} {r : Int32} {I : Nat → Int32} {A : Nat → Nat → Int32} {J : Nat → Nat → Int64} (C : CX p m meth c s args yX6_isFit cX6_isFit 5 (some .boolean)) (N : Nat) (k2 : Int32 → Int32 → Int32 → Option (Int32)) (hk2 : ∀ (v1 : Int32) (v2 : Int32) (v3 : Int32), k2 v1 v2 v3 = some r → ∀ (H : Heap) (locs : List Loc), WD G FA (w_X6 G ad I A J) s H locs → ∀ ls : Array Slot, lv_has ls 5 [(0, .ref (ad 0)), (1, .int v1), (2, .int v2), (3, .int v3)] → W p l e { frames := 2, cells := 0, slots := 0, locals := 43 } s m args below meth c H locs 0 0 (EnI below G FA args s (w_X6 G ad I A J) r) (F0 m 2 ls [])) : ∀ (v1 : Int32) (v2 : Int32) (v3 : Int32) (v4 : Int32), f_X6_isFit_48 N I A J k2 v1 v2 v3 v4 = some r → ∀ (H : Heap) (locs : List Loc), WD G FA (w_X6 G ad I A J) s H locs → ∀ ls : Array Slot, lv_has ls 5 [(0, .ref (ad 0)), (1, .int v1), (2, .int v2), (3, .int v3), (4, .int v4)] → W p l e { frames := 2, cells := 0, slots := 0, locals := 43 } s m args below meth c H locs 0 0 (EnI below G FA args s (w_X6 G ad I A J) r) (F0 m 48 ls []) := by
  have hx := C.1
  have hb := C.2.1
  intro v1 v2 v3 v4 h H locs w ls hl
  unfold f_X6_isFit_48 at h
  refine lv_aload_n hx hb dX6_isFit_48 rfl (lv_at hl 0 rfl) ?_
  refine r_get C w 0 6 17 (.ref (ad 14)) ge_X6_0 rfl inX6 (by decide) tt_561 rfl dX6_isFit_49 ?_
  refine lv_iload_n hx hb dX6_isFit_52 rfl (lv_at hl 1 rfl) ?_
  refine lv_iload_n hx hb dX6_isFit_53 rfl (lv_at hl 3 rfl) ?_
  refine lv_iload_n hx hb dX6_isFit_54 rfl (lv_at hl 2 rfl) ?_
  obtain ⟨x16, hx16, h⟩ := bdS h
  have w0 : WD G _ ([] ++ ([] ++ (w_X6 G ad I A J))) s _ _ := w
  refine cl_i (wc' := []) w0 (run_S (As := [.int v1, .int v3, .int v2]) (rest := [.ref (ad 14)]) C w0 (c_X6_pair l G  _ v1 v3 v2 x16 hx16) mt_X6_pair tt_724 rfl rfl ⟨Nat.le_of_ble_eq_true rfl, Nat.le_of_ble_eq_true rfl⟩ hl.1 (Nat.le_of_ble_eq_true rfl) dX6_isFit_55 ⟨Nat.le_of_ble_eq_true rfl, Nat.le_of_ble_eq_true rfl⟩) (fun H locs w => ?_)
  have w : WD G _ (w_X6 G ad I A J) s H locs := w
  obtain ⟨hin17, h⟩ := gdS h
  refine r_zald C w 14 (A 17 x16.toNatClampNeg) ge_X6_14 rfl hin17 dX6_isFit_58 ?_
  refine lv_if_eq (tgt := 69) hx hb dX6_isFit_59 (by decide) (fun c18 => ?_) (fun c18 => ?_)
  · rw [if_pos c18] at h
    refine lv_iinc (v := v3 + 1) (lv' := [(3, .int (v3 + 1)), (0, .ref (ad 0)), (1, .int v1), (2, .int v2), (4, .int v4)]) hx hb dX6_isFit_69 hl (k := 3) rfl rfl (by decide) rfl (fun ls hl => ?_)
    refine lv_goto (tgt := 2) hx hb dX6_isFit_72 (by decide) ?_
    exact hk2 v1 v2 (v3 + 1) h _ _ w _ (lv_sub hl [1, 2, 3, 0] rfl)
  · rw [if_neg c18] at h
    refine lv_iload hx hb dX6_isFit_62 (lv_at hl 4 rfl) ?_
    refine lv_if_ne (tgt := 69) hx hb dX6_isFit_64 (by decide) (fun c19 => ?_) (fun c19 => ?_)
    · rw [if_neg c19] at h
      refine lv_iinc (v := v3 + 1) (lv' := [(3, .int (v3 + 1)), (0, .ref (ad 0)), (1, .int v1), (2, .int v2), (4, .int v4)]) hx hb dX6_isFit_69 hl (k := 3) rfl rfl (by decide) rfl (fun ls hl => ?_)
      refine lv_goto (tgt := 2) hx hb dX6_isFit_72 (by decide) ?_
      exact hk2 v1 v2 (v3 + 1) h _ _ w _ (lv_sub hl [1, 2, 3, 0] rfl)
    · rw [if_pos c19] at h
      refine lv_iconst (v := 0) hx hb dX6_isFit_67 (by decide) ?_
      cases h
      exact ret_Z C w (Or.inl rfl) rfl rfl dX6_isFit_68
set_option maxHeartbeats 4000000 in
set_option maxRecDepth 100000 in
theorem w_X6_isFit_27 {p : Program} {l : Launch} {e : Env} {s : State} {m : MethodId} {args : Array Value} {below : List Frame} {meth : Method} {c : Code} {FA : Nat → Prop} {G : GG} {ad : Nat → Nat} {r : Int32} {I : Nat → Int32} {A : Nat → Nat → Int32} {J : Nat → Nat → Int64} (C : CX p m meth c s args yX6_isFit cX6_isFit 5 (some .boolean)) (N : Nat) (k2 : Int32 → Int32 → Int32 → Option (Int32)) (hk2 : ∀ (v1 : Int32) (v2 : Int32) (v3 : Int32), k2 v1 v2 v3 = some r → ∀ (H : Heap) (locs : List Loc), WD G FA (w_X6 G ad I A J) s H locs → ∀ ls : Array Slot, lv_has ls 5 [(0, .ref (ad 0)), (1, .int v1), (2, .int v2), (3, .int v3)] → W p l e { frames := 2, cells := 0, slots := 0, locals := 43 } s m args below meth c H locs 0 0 (EnI below G FA args s (w_X6 G ad I A J) r) (F0 m 2 ls [])) : ∀ (v1 : Int32) (v2 : Int32) (v3 : Int32) (s0 : Int32), f_X6_isFit_27 N I A J k2 v1 v2 v3 s0 = some r → ∀ (H : Heap) (locs : List Loc), WD G FA (w_X6 G ad I A J) s H locs → ∀ ls : Array Slot, lv_has ls 5 [(0, .ref (ad 0)), (1, .int v1), (2, .int v2), (3, .int v3)] → W p l e { frames := 2, cells := 0, slots := 0, locals := 43 } s m args below meth c H locs 0 0 (EnI below G FA args s (w_X6 G ad I A J) r) (F0 m 27 ls [.int s0]) := by
  have hx := C.1
  have hb := C.2.1
  intro v1 v2 v3 s0 h H locs w ls hl
  unfold f_X6_isFit_27 at h
  refine lv_istore (lv' := [(4, .int s0), (0, .ref (ad 0)), (1, .int v1), (2, .int v2), (3, .int v3)]) hx hb dX6_isFit_27 hl (by decide) rfl (fun ls hl => ?_)
  refine lv_aload_n hx hb dX6_isFit_29 rfl (lv_at hl 1 rfl) ?_
  refine r_get C w 0 6 16 (.ref (ad 13)) ge_X6_0 rfl inX6 (by decide) tt_560 rfl dX6_isFit_30 ?_
  refine lv_iload_n hx hb dX6_isFit_33 rfl (lv_at hl 2 rfl) ?_
  refine lv_iload_n hx hb dX6_isFit_34 rfl (lv_at hl 4 rfl) ?_
  refine lv_iload_n hx hb dX6_isFit_35 rfl (lv_at hl 3 rfl) ?_
  obtain ⟨x20, hx20, h⟩ := bdS h
  have w0 : WD G _ ([] ++ ([] ++ (w_X6 G ad I A J))) s _ _ := w
  refine cl_i (wc' := []) w0 (run_S (As := [.int v1, .int v3, .int v2]) (rest := [.ref (ad 13)]) C w0 (c_X6_pair l G  _ v1 v3 v2 x20 hx20) mt_X6_pair tt_724 rfl rfl ⟨Nat.le_of_ble_eq_true rfl, Nat.le_of_ble_eq_true rfl⟩ hl.1 (Nat.le_of_ble_eq_true rfl) dX6_isFit_36 ⟨Nat.le_of_ble_eq_true rfl, Nat.le_of_ble_eq_true rfl⟩) (fun H locs w => ?_)
  have w : WD G _ (w_X6 G ad I A J) s H locs := w
  obtain ⟨hin21, h⟩ := gdS h
  refine r_zald C w 13 (A 16 x20.toNatClampNeg) ge_X6_13 rfl hin21 dX6_isFit_39 ?_
  refine lv_if_eq (tgt := 48) hx hb dX6_isFit_40 (by decide) (fun c22 => ?_) (fun c22 => ?_)
  · rw [if_pos c22] at h
    exact w_X6_isFit_48 C N k2 hk2 v1 v2 v3 s0 h _ _ w _ (lv_sub hl [1, 2, 3, 4, 0] rfl)
  · rw [if_neg c22] at h
    refine lv_iload hx hb dX6_isFit_43 (lv_at hl 0 rfl) ?_
    refine lv_if_ne (tgt := 67) hx hb dX6_isFit_45 (by decide) (fun c23 => ?_) (fun c23 => ?_)
    · rw [if_neg c23] at h
      refine lv_iconst (v := 0) hx hb dX6_isFit_67 (by decide) ?_
      cases h
      exact ret_Z C w (Or.inl rfl) rfl rfl dX6_isFit_68
    · rw [if_pos c23] at h
      exact w_X6_isFit_48 C N k2 hk2 v1 v2 v3 s0 h _ _ w _ (lv_sub hl [1, 2, 3, 4, 0] rfl)
set_option maxHeartbeats 4000000 in
set_option maxRecDepth 100000 in
theorem w_X6_isFit_2 {p : Program} {l : Launch} {e : Env} {s : State} {m : MethodId} {args : Array Value} {below : List Frame} {meth : Method} {c : Code} {FA : Nat → Prop} {G : GG} {ad : Nat → Nat} {r : Int32} {I : Nat → Int32} {A : Nat → Nat → Int32} {J : Nat → Nat → Int64} (C : CX p m meth c s args yX6_isFit cX6_isFit 5 (some .boolean)) (N : Nat) : ∀ n : Nat, ∀ (v1 : Int32) (v2 : Int32) (v3 : Int32), f_X6_isFit_2 N I A J n v1 v2 v3 = some r → ∀ (H : Heap) (locs : List Loc), WD G FA (w_X6 G ad I A J) s H locs → ∀ ls : Array Slot, lv_has ls 5 [(0, .ref (ad 0)), (1, .int v1), (2, .int v2), (3, .int v3)] → W p l e { frames := 2, cells := 0, slots := 0, locals := 43 } s m args below meth c H locs 0 0 (EnI below G FA args s (w_X6 G ad I A J) r) (F0 m 2 ls []) := by
  have hx := C.1
  have hb := C.2.1
  intro n
  induction n with
  | zero =>
    intro v1 v2 v3 h
    cases h
  | succ n ih =>
    intro v1 v2 v3 h H locs w ls hl
    rw [f_X6_isFit_2] at h
    refine lv_iload_n hx hb dX6_isFit_2 rfl (lv_at hl 3 rfl) ?_
    refine lv_iload_n hx hb dX6_isFit_3 rfl (lv_at hl 2 rfl) ?_
    refine lv_icmp_ge (tgt := 75) hx hb dX6_isFit_4 (by decide) (fun c24 => ?_) (fun c24 => ?_)
    · rw [if_pos c24] at h
      refine lv_iconst (v := 0) hx hb dX6_isFit_75 (by decide) ?_
      refine lv_istore_n (lv' := [(3, .int 0), (0, .ref (ad 0)), (1, .int v1), (2, .int v2)]) hx hb dX6_isFit_76 rfl hl (by decide) rfl (fun ls hl => ?_)
      refine lv_iconst (v := 0) hx hb dX6_isFit_77 (by decide) ?_
      refine lv_istore (lv' := [(4, .int 0), (3, .int 0), (0, .ref (ad 0)), (1, .int v1), (2, .int v2)]) hx hb dX6_isFit_78 hl (by decide) rfl (fun ls hl => ?_)
      exact w_X6_isFit_80 C N N v1 v2 0 0 h _ _ w _ (lv_sub hl [2, 3, 4, 1, 0] rfl)
    · rw [if_neg c24] at h
      refine lv_aload_n hx hb dX6_isFit_7 rfl (lv_at hl 0 rfl) ?_
      refine r_get C w 0 6 26 (.ref (ad 20)) ge_X6_0 rfl inX6 (by decide) tt_570 rfl dX6_isFit_8 ?_
      refine lv_iload_n hx hb dX6_isFit_11 rfl (lv_at hl 3 rfl) ?_
      obtain ⟨hin25, h⟩ := gdS h
      refine r_iald C w 20 (A 26 v3.toNatClampNeg) ge_X6_20 rfl hin25 dX6_isFit_12 ?_
      refine lv_aload_n hx hb dX6_isFit_13 rfl (lv_at hl 0 rfl) ?_
      refine r_get C w 0 6 26 (.ref (ad 20)) ge_X6_0 rfl inX6 (by decide) tt_570 rfl dX6_isFit_14 ?_
      refine lv_iload_n hx hb dX6_isFit_17 rfl (lv_at hl 2 rfl) ?_
      obtain ⟨hin26, h⟩ := gdS h
      refine r_iald C w 20 (A 26 v2.toNatClampNeg) ge_X6_20 rfl hin26 dX6_isFit_18 ?_
      refine lv_icmp_ne (tgt := 26) hx hb dX6_isFit_19 (by decide) (fun c27 => ?_) (fun c27 => ?_)
      · rw [if_neg c27] at h
        refine lv_iconst (v := 0) hx hb dX6_isFit_26 (by decide) ?_
        exact w_X6_isFit_27 C N _ ih v1 v2 v3 0 h _ _ w _ (lv_sub hl [0, 1, 2, 3] rfl)
      · rw [if_pos c27] at h
        refine lv_iconst (v := 1) hx hb dX6_isFit_22 (by decide) ?_
        refine lv_goto (tgt := 27) hx hb dX6_isFit_23 (by decide) ?_
        exact w_X6_isFit_27 C N _ ih v1 v2 v3 1 h _ _ w _ (lv_sub hl [0, 1, 2, 3] rfl)
set_option maxHeartbeats 4000000 in
set_option maxRecDepth 100000 in
theorem c_X6_isFit (l : Launch) (G : GG) (ad : Nat → Nat) (sz : Nat) (N : Nat) (I : Nat → Int32) (A : Nat → Nat → Int32) (J : Nat → Nat → Int64) (a1 : Int32) (a2 : Int32) (r : Int32) (h : f_X6_isFit N I A J a1 a2 = some r) : CtI l yX6_isFit cX6_isFit 5 (some .boolean) { frames := 2, cells := 0, slots := 0, locals := 43 } G [.ref (ad 0), .int a1, .int a2] (w_X6 G ad I A J) (w_X6 G ad I A J) sz r := by
  refine ct_of (by decide) (Nat.le_of_ble_eq_true rfl) (fun p e s m below meth c ls C w hsz hl => ?_)
  have hx := C.1
  have hb := C.2.1
  have hl : lv_has ls 5 [(0, .ref (ad 0)), (1, .int a1), (2, .int a2)] := hl
  unfold f_X6_isFit at h
  refine lv_iconst (v := 0) hx hb dX6_isFit_0 (by decide) ?_
  refine lv_istore_n (lv' := [(3, .int 0), (0, .ref (ad 0)), (1, .int a1), (2, .int a2)]) hx hb dX6_isFit_1 rfl hl (by decide) rfl (fun ls hl => ?_)
  exact w_X6_isFit_2 C N N a1 a2 0 h _ _ w _ (lv_sub hl [1, 2, 3, 0] rfl)
set_option maxHeartbeats 4000000 in
set_option maxRecDepth 100000 in
theorem w_X6_canBe_182 {p : Program} {l : Launch} {e : Env} {s : State} {m : MethodId} {args : Array Value} {below : List Frame} {meth : Method} {c : Code} {FA : Nat → Prop} {G : GG} {ad : Nat → Nat} {r : Int32} {I' : Nat → Int32} {A' : Nat → Nat → Int32} {J' : Nat → Nat → Int64}  (C : CX p m meth c s args yX6_canBe cX6_canBe 7 (some .boolean)) (N : Nat) (k27 : (Nat → Int32) → (Nat → Nat → Int32) → (Nat → Nat → Int64) → Int32 → Int32 → Int32 → Int32 → Option (Int32 × (Nat → Int32) × (Nat → Nat → Int32) × (Nat → Nat → Int64))) (hk27 : ∀ (I : Nat → Int32) (A : Nat → Nat → Int32) (J : Nat → Nat → Int64) (v1 : Int32) (v2 : Int32) (v3 : Int32) (v4 : Int32), k27 I A J v1 v2 v3 v4 = some (r, I', A', J') → ∀ (H : Heap) (locs : List Loc), WD G FA (w_X6 G ad I A J) s H locs → ∀ ls : Array Slot, lv_has ls 7 [(0, .ref (ad 0)), (1, .int v1), (2, .int v2), (3, .int v3), (4, .int v4)] → W p l e { frames := 3, cells := 0, slots := 0, locals := 67 } s m args below meth c H locs 0 0 (EnI below G FA args s (w_X6 G ad I' A' J') r) (F0 m 27 ls [])) : ∀ (I : Nat → Int32) (A : Nat → Nat → Int32) (J : Nat → Nat → Int64) (v1 : Int32) (v2 : Int32) (v3 : Int32) (v4 : Int32) (v5 : Int32), f_X6_canBe_182 N k27 I A J v1 v2 v3 v4 v5 = some (r, I', A', J') → ∀ (H : Heap) (locs : List Loc), WD G FA (w_X6 G ad I A J) s H locs → ∀ ls : Array Slot, lv_has ls 7 [(0, .ref (ad 0)), (1, .int v1), (2, .int v2), (3, .int v3), (4, .int v4), (5, .int v5)] → W p l e { frames := 3, cells := 0, slots := 0, locals := 67 } s m args below meth c H locs 0 0 (EnI below G FA args s (w_X6 G ad I' A' J') r) (F0 m 182 ls []) := by
  have hx := C.1
  have hb := C.2.1
  intro I A J v1 v2 v3 v4 v5 h H locs w ls hl
  unfold f_X6_canBe_182 at h
  refine lv_iload hx hb dX6_canBe_182 (lv_at hl 5 rfl) ?_
  refine lv_if_ne (tgt := 193) hx hb dX6_canBe_184 (by decide) (fun c20 => ?_) (fun c20 => ?_)
  · rw [if_neg c20] at h
    refine lv_aload_n hx hb dX6_canBe_193 rfl (lv_at hl 0 rfl) ?_
    refine lv_iload_n hx hb dX6_canBe_194 rfl (lv_at hl 2 rfl) ?_
    refine lv_iload hx hb dX6_canBe_195 (lv_at hl 4 rfl) ?_
    obtain ⟨x21, hx21, h⟩ := bdS h
    have w0 := w.z
    refine cl_i (wc' := (w_X6 G ad I A J)) w0 (run_V (As := [.int v2, .int v4]) (rest := []) C w0 (c_X6_isFit l G ad  _ N I A J v2 v4 x21 hx21) mt_X6_isFit tt_750 6 rfl rfl rfl rfl ⟨Nat.le_of_ble_eq_true rfl, Nat.le_of_ble_eq_true rfl⟩ hl.1 (Nat.le_of_ble_eq_true rfl) dX6_canBe_197 ⟨Nat.le_of_ble_eq_true rfl, Nat.le_of_ble_eq_true rfl⟩) (fun H locs w => ?_)
    have w := w.uz
    refine lv_if_eq (tgt := 220) hx hb dX6_canBe_200 (by decide) (fun c22 => ?_) (fun c22 => ?_)
    · rw [if_pos c22] at h
      refine lv_goto (tgt := 27) hx hb dX6_canBe_220 (by decide) ?_
      exact hk27 I A J v1 v2 v3 v4 h _ _ w _ (lv_sub hl [0, 1, 2, 3, 4] rfl)
    · rw [if_neg c22] at h
      refine lv_iinc (v := v4 + 1) (lv' := [(4, .int (v4 + 1)), (0, .ref (ad 0)), (1, .int v1), (2, .int v2), (3, .int v3), (5, .int v5)]) hx hb dX6_canBe_203 hl (k := 4) rfl rfl (by decide) rfl (fun ls hl => ?_)
      refine lv_iload hx hb dX6_canBe_206 (lv_at hl 0 rfl) ?_
      refine lv_iload_n hx hb dX6_canBe_208 rfl (lv_at hl 4 rfl) ?_
      refine lv_icmp_ge (tgt := 220) hx hb dX6_canBe_209 (by decide) (fun c23 => ?_) (fun c23 => ?_)
      · rw [if_pos c23] at h
        refine lv_goto (tgt := 27) hx hb dX6_canBe_220 (by decide) ?_
        exact hk27 I A J v1 v2 v3 (v4 + 1) h _ _ w _ (lv_sub hl [1, 2, 3, 4, 0] rfl)
      · rw [if_neg c23] at h
        refine lv_aload_n hx hb dX6_canBe_212 rfl (lv_at hl 1 rfl) ?_
        refine r_get C w 0 6 26 (.ref (ad 20)) ge_X6_0 rfl inX6 (by decide) tt_570 rfl dX6_canBe_213 ?_
        refine lv_iload hx hb dX6_canBe_216 (lv_at hl 0 rfl) ?_
        refine lv_iconst (v := (-1)) hx hb dX6_canBe_218 (by decide) ?_
        obtain ⟨hin24, h⟩ := gdS h
        refine r_iast C w 20 (w_X6 G ad I (aS A 26 (v4 + 1).toNatClampNeg (-1)) J) ge_X6_20 hin24 st_X6_20 dX6_canBe_219 (fun H locs w => ?_)
        refine lv_goto (tgt := 27) hx hb dX6_canBe_220 (by decide) ?_
        exact hk27 I (aS A 26 (v4 + 1).toNatClampNeg (-1)) J v1 v2 v3 (v4 + 1) h _ _ w _ (lv_sub hl [1, 2, 3, 4, 0] rfl)
  · rw [if_pos c20] at h
    refine lv_iinc (v := v4 + (-1)) (lv' := [(4, .int (v4 + (-1))), (0, .ref (ad 0)), (1, .int v1), (2, .int v2), (3, .int v3), (5, .int v5)]) hx hb dX6_canBe_187 hl (k := 4) rfl rfl (by decide) rfl (fun ls hl => ?_)
    refine lv_goto (tgt := 220) hx hb dX6_canBe_190 (by decide) ?_
    refine lv_goto (tgt := 27) hx hb dX6_canBe_220 (by decide) ?_
    exact hk27 I A J v1 v2 v3 (v4 + (-1)) h _ _ w _ (lv_sub hl [1, 2, 3, 4, 0] rfl)
set_option maxHeartbeats 4000000 in
set_option maxRecDepth 100000 in
theorem w_X6_canBe_72 {p : Program} {l : Launch} {e : Env} {s : State} {m : MethodId} {args : Array Value} {below : List Frame} {meth : Method} {c : Code} {FA : Nat → Prop} {G : GG} {ad : Nat → Nat} {r : Int32} {I' : Nat → Int32} {A' : Nat → Nat → Int32} {J' : Nat → Nat → Int64}  (C : CX p m meth c s args yX6_canBe cX6_canBe 7 (some .boolean)) (N : Nat) (k27 : (Nat → Int32) → (Nat → Nat → Int32) → (Nat → Nat → Int64) → Int32 → Int32 → Int32 → Int32 → Option (Int32 × (Nat → Int32) × (Nat → Nat → Int32) × (Nat → Nat → Int64))) (hk27 : ∀ (I : Nat → Int32) (A : Nat → Nat → Int32) (J : Nat → Nat → Int64) (v1 : Int32) (v2 : Int32) (v3 : Int32) (v4 : Int32), k27 I A J v1 v2 v3 v4 = some (r, I', A', J') → ∀ (H : Heap) (locs : List Loc), WD G FA (w_X6 G ad I A J) s H locs → ∀ ls : Array Slot, lv_has ls 7 [(0, .ref (ad 0)), (1, .int v1), (2, .int v2), (3, .int v3), (4, .int v4)] → W p l e { frames := 3, cells := 0, slots := 0, locals := 67 } s m args below meth c H locs 0 0 (EnI below G FA args s (w_X6 G ad I' A' J') r) (F0 m 27 ls [])) : ∀ (I : Nat → Int32) (A : Nat → Nat → Int32) (J : Nat → Nat → Int64) (v1 : Int32) (v2 : Int32) (v3 : Int32) (v4 : Int32) (v6 : Int32) (s0 : Int32), f_X6_canBe_72 N k27 I A J v1 v2 v3 v4 v6 s0 = some (r, I', A', J') → ∀ (H : Heap) (locs : List Loc), WD G FA (w_X6 G ad I A J) s H locs → ∀ ls : Array Slot, lv_has ls 7 [(0, .ref (ad 0)), (1, .int v1), (2, .int v2), (3, .int v3), (4, .int v4), (6, .int v6)] → W p l e { frames := 3, cells := 0, slots := 0, locals := 67 } s m args below meth c H locs 0 0 (EnI below G FA args s (w_X6 G ad I' A' J') r) (F0 m 72 ls [.int s0]) := by
  have hx := C.1
  have hb := C.2.1
  intro I A J v1 v2 v3 v4 v6 s0 h H locs w ls hl
  unfold f_X6_canBe_72 at h
  refine lv_istore (lv' := [(5, .int s0), (0, .ref (ad 0)), (1, .int v1), (2, .int v2), (3, .int v3), (4, .int v4), (6, .int v6)]) hx hb dX6_canBe_72 hl (by decide) rfl (fun ls hl => ?_)
  refine lv_aload_n hx hb dX6_canBe_74 rfl (lv_at hl 1 rfl) ?_
  refine r_get C w 0 6 26 (.ref (ad 20)) ge_X6_0 rfl inX6 (by decide) tt_570 rfl dX6_canBe_75 ?_
  refine lv_iload hx hb dX6_canBe_78 (lv_at hl 5 rfl) ?_
  refine lv_iload hx hb dX6_canBe_80 (lv_at hl 0 rfl) ?_
  refine lv_if_eq (tgt := 90) hx hb dX6_canBe_82 (by decide) (fun c25 => ?_) (fun c25 => ?_)
  · rw [if_pos c25] at h
    refine lv_bipush (v := (12)) hx hb dX6_canBe_90 (by decide) ?_
    obtain ⟨hin26, h⟩ := gdS h
    refine r_iast C w 20 (w_X6 G ad I (aS A 26 v4.toNatClampNeg 12) J) ge_X6_20 hin26 st_X6_20 dX6_canBe_92 (fun H locs w => ?_)
    refine lv_goto (tgt := 182) hx hb dX6_canBe_93 (by decide) ?_
    exact w_X6_canBe_182 C N k27 hk27 I (aS A 26 v4.toNatClampNeg 12) J v1 v2 v3 v4 s0 h _ _ w _ (lv_sub hl [1, 2, 3, 4, 5, 0] rfl)
  · rw [if_neg c25] at h
    refine lv_iload hx hb dX6_canBe_85 (lv_at hl 6 rfl) ?_
    refine lv_goto (tgt := 92) hx hb dX6_canBe_87 (by decide) ?_
    obtain ⟨hin27, h⟩ := gdS h
    refine r_iast C w 20 (w_X6 G ad I (aS A 26 v4.toNatClampNeg v6) J) ge_X6_20 hin27 st_X6_20 dX6_canBe_92 (fun H locs w => ?_)
    refine lv_goto (tgt := 182) hx hb dX6_canBe_93 (by decide) ?_
    exact w_X6_canBe_182 C N k27 hk27 I (aS A 26 v4.toNatClampNeg v6) J v1 v2 v3 v4 s0 h _ _ w _ (lv_sub hl [1, 2, 3, 4, 5, 0] rfl)
set_option maxHeartbeats 4000000 in
set_option maxRecDepth 100000 in
theorem w_X6_canBe_107 {p : Program} {l : Launch} {e : Env} {s : State} {m : MethodId} {args : Array Value} {below : List Frame} {meth : Method} {c : Code} {FA : Nat → Prop} {G : GG} {ad : Nat → Nat} {r : Int32} {I' : Nat → Int32} {A' : Nat → Nat → Int32} {J' : Nat → Nat → Int64}  (C : CX p m meth c s args yX6_canBe cX6_canBe 7 (some .boolean)) (N : Nat) (k27 : (Nat → Int32) → (Nat → Nat → Int32) → (Nat → Nat → Int64) → Int32 → Int32 → Int32 → Int32 → Option (Int32 × (Nat → Int32) × (Nat → Nat → Int32) × (Nat → Nat → Int64))) (hk27 : ∀ (I : Nat → Int32) (A : Nat → Nat → Int32) (J : Nat → Nat → Int64) (v1 : Int32) (v2 : Int32) (v3 : Int32) (v4 : Int32), k27 I A J v1 v2 v3 v4 = some (r, I', A', J') → ∀ (H : Heap) (locs : List Loc), WD G FA (w_X6 G ad I A J) s H locs → ∀ ls : Array Slot, lv_has ls 7 [(0, .ref (ad 0)), (1, .int v1), (2, .int v2), (3, .int v3), (4, .int v4)] → W p l e { frames := 3, cells := 0, slots := 0, locals := 67 } s m args below meth c H locs 0 0 (EnI below G FA args s (w_X6 G ad I' A' J') r) (F0 m 27 ls [])) : ∀ n : Nat, ∀ (I : Nat → Int32) (A : Nat → Nat → Int32) (J : Nat → Nat → Int64) (v1 : Int32) (v2 : Int32) (v3 : Int32) (v4 : Int32), f_X6_canBe_107 N k27 n I A J v1 v2 v3 v4 = some (r, I', A', J') → ∀ (H : Heap) (locs : List Loc), WD G FA (w_X6 G ad I A J) s H locs → ∀ ls : Array Slot, lv_has ls 7 [(0, .ref (ad 0)), (1, .int v1), (2, .int v2), (3, .int v3), (4, .int v4)] → W p l e { frames := 3, cells := 0, slots := 0, locals := 67 } s m args below meth c H locs 0 0 (EnI below G FA args s (w_X6 G ad I' A' J') r) (F0 m 107 ls []) := by
  have hx := C.1
  have hb := C.2.1
  intro n
  induction n with
  | zero =>
    intro I A J v1 v2 v3 v4 h
    cases h
  | succ n ih =>
    intro I A J v1 v2 v3 v4 h H locs w ls hl
    rw [f_X6_canBe_107] at h
    refine lv_aload_n hx hb dX6_canBe_107 rfl (lv_at hl 0 rfl) ?_
    refine r_get C w 0 6 26 (.ref (ad 20)) ge_X6_0 rfl inX6 (by decide) tt_570 rfl dX6_canBe_108 ?_
    refine lv_iload hx hb dX6_canBe_111 (lv_at hl 4 rfl) ?_
    obtain ⟨hin28, h⟩ := gdS h
    refine r_iald C w 20 (A 26 v4.toNatClampNeg) ge_X6_20 rfl hin28 dX6_canBe_113 ?_
    refine lv_bipush (v := (12)) hx hb dX6_canBe_114 (by decide) ?_
    refine lv_icmp_ge (tgt := 163) hx hb dX6_canBe_116 (by decide) (fun c29 => ?_) (fun c29 => ?_)
    · rw [if_pos c29] at h
      refine lv_aload_n hx hb dX6_canBe_163 rfl (lv_at hl 0 rfl) ?_
      refine r_get C w 0 6 26 (.ref (ad 20)) ge_X6_0 rfl inX6 (by decide) tt_570 rfl dX6_canBe_164 ?_
      refine lv_iload hx hb dX6_canBe_167 (lv_at hl 4 rfl) ?_
      obtain ⟨hin30, h⟩ := gdS h
      refine r_iald C w 20 (A 26 v4.toNatClampNeg) ge_X6_20 rfl hin30 dX6_canBe_169 ?_
      refine lv_bipush (v := (12)) hx hb dX6_canBe_170 (by decide) ?_
      refine lv_icmp_ge (tgt := 179) hx hb dX6_canBe_172 (by decide) (fun c31 => ?_) (fun c31 => ?_)
      · rw [if_pos c31] at h
        refine lv_iconst (v := 0) hx hb dX6_canBe_179 (by decide) ?_
        refine lv_istore (lv' := [(5, .int 0), (0, .ref (ad 0)), (1, .int v1), (2, .int v2), (3, .int v3), (4, .int v4)]) hx hb dX6_canBe_180 hl (by decide) rfl (fun ls hl => ?_)
        exact w_X6_canBe_182 C N k27 hk27 I A J v1 v2 v3 v4 0 h _ _ w _ (lv_sub hl [1, 2, 3, 4, 5, 0] rfl)
      · rw [if_neg c31] at h
        refine lv_iconst (v := 1) hx hb dX6_canBe_175 (by decide) ?_
        refine lv_goto (tgt := 180) hx hb dX6_canBe_176 (by decide) ?_
        refine lv_istore (lv' := [(5, .int 1), (0, .ref (ad 0)), (1, .int v1), (2, .int v2), (3, .int v3), (4, .int v4)]) hx hb dX6_canBe_180 hl (by decide) rfl (fun ls hl => ?_)
        exact w_X6_canBe_182 C N k27 hk27 I A J v1 v2 v3 v4 1 h _ _ w _ (lv_sub hl [1, 2, 3, 4, 5, 0] rfl)
    · rw [if_neg c29] at h
      refine lv_aload_n hx hb dX6_canBe_119 rfl (lv_at hl 0 rfl) ?_
      refine r_get C w 0 6 1 (.ref (ad 1)) ge_X6_0 rfl inX6 (by decide) tt_545 rfl dX6_canBe_120 ?_
      refine lv_aload_n hx hb dX6_canBe_123 rfl (lv_at hl 0 rfl) ?_
      refine r_get C w 0 6 26 (.ref (ad 20)) ge_X6_0 rfl inX6 (by decide) tt_570 rfl dX6_canBe_124 ?_
      refine lv_iload hx hb dX6_canBe_127 (lv_at hl 4 rfl) ?_
      obtain ⟨hin32, h⟩ := gdS h
      refine r_iald C w 20 (A 26 v4.toNatClampNeg) ge_X6_20 rfl hin32 dX6_canBe_129 ?_
      obtain ⟨hin33, h⟩ := gdS h
      refine r_iald C w 1 (A 1 (A 26 v4.toNatClampNeg).toNatClampNeg) ge_X6_1 rfl hin33 dX6_canBe_130 ?_
      refine lv_aload_n hx hb dX6_canBe_131 rfl (lv_at hl 0 rfl) ?_
      refine r_get C w 0 6 14 (.ref (ad 11)) ge_X6_0 rfl inX6 (by decide) tt_558 rfl dX6_canBe_132 ?_
      refine lv_bipush (v := (6)) hx hb dX6_canBe_135 (by decide) ?_
      refine lv_iload_n hx hb dX6_canBe_137 rfl (lv_at hl 2 rfl) ?_
      refine lv_imul hx hb dX6_canBe_138 ?_
      refine lv_iload hx hb dX6_canBe_139 (lv_at hl 4 rfl) ?_
      refine lv_iadd hx hb dX6_canBe_141 ?_
      obtain ⟨hin34, h⟩ := gdS h
      refine r_iald C w 11 (A 14 ((6 * v2) + v4).toNatClampNeg) ge_X6_11 rfl hin34 dX6_canBe_142 ?_
      refine lv_ishr hx hb dX6_canBe_143 ?_
      refine lv_iconst (v := 1) hx hb dX6_canBe_144 (by decide) ?_
      refine lv_iand hx hb dX6_canBe_145 ?_
      refine lv_if_ne (tgt := 163) hx hb dX6_canBe_146 (by decide) (fun c35 => ?_) (fun c35 => ?_)
      · rw [if_neg c35] at h
        refine lv_aload_n hx hb dX6_canBe_163 rfl (lv_at hl 0 rfl) ?_
        refine r_get C w 0 6 26 (.ref (ad 20)) ge_X6_0 rfl inX6 (by decide) tt_570 rfl dX6_canBe_164 ?_
        refine lv_iload hx hb dX6_canBe_167 (lv_at hl 4 rfl) ?_
        obtain ⟨hin36, h⟩ := gdS h
        refine r_iald C w 20 (A 26 v4.toNatClampNeg) ge_X6_20 rfl hin36 dX6_canBe_169 ?_
        refine lv_bipush (v := (12)) hx hb dX6_canBe_170 (by decide) ?_
        refine lv_icmp_ge (tgt := 179) hx hb dX6_canBe_172 (by decide) (fun c37 => ?_) (fun c37 => ?_)
        · rw [if_pos c37] at h
          refine lv_iconst (v := 0) hx hb dX6_canBe_179 (by decide) ?_
          refine lv_istore (lv' := [(5, .int 0), (0, .ref (ad 0)), (1, .int v1), (2, .int v2), (3, .int v3), (4, .int v4)]) hx hb dX6_canBe_180 hl (by decide) rfl (fun ls hl => ?_)
          exact w_X6_canBe_182 C N k27 hk27 I A J v1 v2 v3 v4 0 h _ _ w _ (lv_sub hl [1, 2, 3, 4, 5, 0] rfl)
        · rw [if_neg c37] at h
          refine lv_iconst (v := 1) hx hb dX6_canBe_175 (by decide) ?_
          refine lv_goto (tgt := 180) hx hb dX6_canBe_176 (by decide) ?_
          refine lv_istore (lv' := [(5, .int 1), (0, .ref (ad 0)), (1, .int v1), (2, .int v2), (3, .int v3), (4, .int v4)]) hx hb dX6_canBe_180 hl (by decide) rfl (fun ls hl => ?_)
          exact w_X6_canBe_182 C N k27 hk27 I A J v1 v2 v3 v4 1 h _ _ w _ (lv_sub hl [1, 2, 3, 4, 5, 0] rfl)
      · rw [if_pos c35] at h
        refine lv_aload_n hx hb dX6_canBe_149 rfl (lv_at hl 0 rfl) ?_
        refine r_get C w 0 6 26 (.ref (ad 20)) ge_X6_0 rfl inX6 (by decide) tt_570 rfl dX6_canBe_150 ?_
        refine lv_iload hx hb dX6_canBe_153 (lv_at hl 4 rfl) ?_
        refine lv_dup2_11 hx hb dX6_canBe_155 rfl rfl ?_
        obtain ⟨hin38, h⟩ := gdS h
        refine r_iald C w 20 (A 26 v4.toNatClampNeg) ge_X6_20 rfl hin38 dX6_canBe_156 ?_
        refine lv_iconst (v := 1) hx hb dX6_canBe_157 (by decide) ?_
        refine lv_iadd hx hb dX6_canBe_158 ?_
        obtain ⟨hin39, h⟩ := gdS h
        refine r_iast C w 20 (w_X6 G ad I (aS A 26 v4.toNatClampNeg ((A 26 v4.toNatClampNeg) + 1)) J) ge_X6_20 hin39 st_X6_20 dX6_canBe_159 (fun H locs w => ?_)
        refine lv_goto (tgt := 107) hx hb dX6_canBe_160 (by decide) ?_
        exact ih I (aS A 26 v4.toNatClampNeg ((A 26 v4.toNatClampNeg) + 1)) J v1 v2 v3 v4 h _ _ w _ (lv_sub hl [0, 1, 2, 3, 4] rfl)
set_option maxHeartbeats 4000000 in
set_option maxRecDepth 100000 in
theorem w_X6_canBe_27 {p : Program} {l : Launch} {e : Env} {s : State} {m : MethodId} {args : Array Value} {below : List Frame} {meth : Method} {c : Code} {FA : Nat → Prop} {G : GG} {ad : Nat → Nat} {r : Int32} {I' : Nat → Int32} {A' : Nat → Nat → Int32} {J' : Nat → Nat → Int64}  (C : CX p m meth c s args yX6_canBe cX6_canBe 7 (some .boolean)) (N : Nat) : ∀ n : Nat, ∀ (I : Nat → Int32) (A : Nat → Nat → Int32) (J : Nat → Nat → Int64) (v1 : Int32) (v2 : Int32) (v3 : Int32) (v4 : Int32), f_X6_canBe_27 N n I A J v1 v2 v3 v4 = some (r, I', A', J') → ∀ (H : Heap) (locs : List Loc), WD G FA (w_X6 G ad I A J) s H locs → ∀ ls : Array Slot, lv_has ls 7 [(0, .ref (ad 0)), (1, .int v1), (2, .int v2), (3, .int v3), (4, .int v4)] → W p l e { frames := 3, cells := 0, slots := 0, locals := 67 } s m args below meth c H locs 0 0 (EnI below G FA args s (w_X6 G ad I' A' J') r) (F0 m 27 ls []) := by
  have hx := C.1
  have hb := C.2.1
  intro n
  induction n with
  | zero =>
    intro I A J v1 v2 v3 v4 h
    cases h
  | succ n ih =>
    intro I A J v1 v2 v3 v4 h H locs w ls hl
    rw [f_X6_canBe_27] at h
    refine lv_iload hx hb dX6_canBe_27 (lv_at hl 4 rfl) ?_
    refine lv_if_lt (tgt := 223) hx hb dX6_canBe_29 (by decide) (fun c40 => ?_) (fun c40 => ?_)
    · rw [if_pos c40] at h
      refine lv_iload hx hb dX6_canBe_223 (lv_at hl 4 rfl) ?_
      refine lv_iload_n hx hb dX6_canBe_225 rfl (lv_at hl 3 rfl) ?_
      refine lv_icmp_ne (tgt := 233) hx hb dX6_canBe_226 (by decide) (fun c41 => ?_) (fun c41 => ?_)
      · rw [if_neg c41] at h
        refine lv_iconst (v := 0) hx hb dX6_canBe_233 (by decide) ?_
        cases h
        exact ret_Z C w (Or.inl rfl) rfl rfl dX6_canBe_234
      · rw [if_pos c41] at h
        refine lv_iconst (v := 1) hx hb dX6_canBe_229 (by decide) ?_
        refine lv_goto (tgt := 234) hx hb dX6_canBe_230 (by decide) ?_
        cases h
        exact ret_Z C w (Or.inr rfl) rfl rfl dX6_canBe_234
    · rw [if_neg c40] at h
      refine lv_iload hx hb dX6_canBe_32 (lv_at hl 4 rfl) ?_
      refine lv_iload_n hx hb dX6_canBe_34 rfl (lv_at hl 3 rfl) ?_
      refine lv_icmp_ge (tgt := 223) hx hb dX6_canBe_35 (by decide) (fun c42 => ?_) (fun c42 => ?_)
      · rw [if_pos c42] at h
        refine lv_iload hx hb dX6_canBe_223 (lv_at hl 4 rfl) ?_
        refine lv_iload_n hx hb dX6_canBe_225 rfl (lv_at hl 3 rfl) ?_
        refine lv_icmp_ne (tgt := 233) hx hb dX6_canBe_226 (by decide) (fun c43 => ?_) (fun c43 => ?_)
        · rw [if_neg c43] at h
          refine lv_iconst (v := 0) hx hb dX6_canBe_233 (by decide) ?_
          cases h
          exact ret_Z C w (Or.inl rfl) rfl rfl dX6_canBe_234
        · rw [if_pos c43] at h
          refine lv_iconst (v := 1) hx hb dX6_canBe_229 (by decide) ?_
          refine lv_goto (tgt := 234) hx hb dX6_canBe_230 (by decide) ?_
          cases h
          exact ret_Z C w (Or.inr rfl) rfl rfl dX6_canBe_234
      · rw [if_neg c42] at h
        refine lv_aload_n hx hb dX6_canBe_38 rfl (lv_at hl 0 rfl) ?_
        refine r_get C w 0 6 21 (.ref (ad 17)) ge_X6_0 rfl inX6 (by decide) tt_565 rfl dX6_canBe_39 ?_
        refine lv_bipush (v := (6)) hx hb dX6_canBe_42 (by decide) ?_
        refine lv_iload_n hx hb dX6_canBe_44 rfl (lv_at hl 1 rfl) ?_
        refine lv_imul hx hb dX6_canBe_45 ?_
        refine lv_iload hx hb dX6_canBe_46 (lv_at hl 4 rfl) ?_
        refine lv_iadd hx hb dX6_canBe_48 ?_
        obtain ⟨hin44, h⟩ := gdS h
        refine r_iald C w 17 (A 21 ((6 * v1) + v4).toNatClampNeg) ge_X6_17 rfl hin44 dX6_canBe_49 ?_
        refine lv_istore (lv' := [(6, .int (A 21 ((6 * v1) + v4).toNatClampNeg)), (0, .ref (ad 0)), (1, .int v1), (2, .int v2), (3, .int v3), (4, .int v4)]) hx hb dX6_canBe_50 hl (by decide) rfl (fun ls hl => ?_)
        refine lv_iload hx hb dX6_canBe_52 (lv_at hl 0 rfl) ?_
        refine lv_if_lt (tgt := 96) hx hb dX6_canBe_54 (by decide) (fun c45 => ?_) (fun c45 => ?_)
        · rw [if_pos c45] at h
          refine lv_aload_n hx hb dX6_canBe_96 rfl (lv_at hl 1 rfl) ?_
          refine r_get C w 0 6 26 (.ref (ad 20)) ge_X6_0 rfl inX6 (by decide) tt_570 rfl dX6_canBe_97 ?_
          refine lv_iload hx hb dX6_canBe_100 (lv_at hl 5 rfl) ?_
          refine lv_dup2_11 hx hb dX6_canBe_102 rfl rfl ?_
          obtain ⟨hin46, h⟩ := gdS h
          refine r_iald C w 20 (A 26 v4.toNatClampNeg) ge_X6_20 rfl hin46 dX6_canBe_103 ?_
          refine lv_iconst (v := 1) hx hb dX6_canBe_104 (by decide) ?_
          refine lv_iadd hx hb dX6_canBe_105 ?_
          obtain ⟨hin47, h⟩ := gdS h
          refine r_iast C w 20 (w_X6 G ad I (aS A 26 v4.toNatClampNeg ((A 26 v4.toNatClampNeg) + 1)) J) ge_X6_20 hin47 st_X6_20 dX6_canBe_106 (fun H locs w => ?_)
          exact w_X6_canBe_107 C N _ ih N I (aS A 26 v4.toNatClampNeg ((A 26 v4.toNatClampNeg) + 1)) J v1 v2 v3 v4 h _ _ w _ (lv_sub hl [1, 2, 3, 4, 5] rfl)
        · rw [if_neg c45] at h
          refine lv_aload_n hx hb dX6_canBe_57 rfl (lv_at hl 1 rfl) ?_
          refine r_get C w 0 6 26 (.ref (ad 20)) ge_X6_0 rfl inX6 (by decide) tt_570 rfl dX6_canBe_58 ?_
          refine lv_iload hx hb dX6_canBe_61 (lv_at hl 5 rfl) ?_
          obtain ⟨hin48, h⟩ := gdS h
          refine r_iald C w 20 (A 26 v4.toNatClampNeg) ge_X6_20 rfl hin48 dX6_canBe_63 ?_
          refine lv_if_ge (tgt := 71) hx hb dX6_canBe_64 (by decide) (fun c49 => ?_) (fun c49 => ?_)
          · rw [if_pos c49] at h
            refine lv_iconst (v := 0) hx hb dX6_canBe_71 (by decide) ?_
            exact w_X6_canBe_72 C N _ ih I A J v1 v2 v3 v4 (A 21 ((6 * v1) + v4).toNatClampNeg) 0 h _ _ w _ (lv_sub hl [1, 2, 3, 4, 5, 0] rfl)
          · rw [if_neg c49] at h
            refine lv_iconst (v := 1) hx hb dX6_canBe_67 (by decide) ?_
            refine lv_goto (tgt := 72) hx hb dX6_canBe_68 (by decide) ?_
            exact w_X6_canBe_72 C N _ ih I A J v1 v2 v3 v4 (A 21 ((6 * v1) + v4).toNatClampNeg) 1 h _ _ w _ (lv_sub hl [1, 2, 3, 4, 5, 0] rfl)
set_option maxHeartbeats 4000000 in
set_option maxRecDepth 100000 in
theorem c_X6_canBe (l : Launch) (G : GG) (ad : Nat → Nat) (sz : Nat) (N : Nat) (I : Nat → Int32) (A : Nat → Nat → Int32) (J : Nat → Nat → Int64) (a1 : Int32) (r : Int32) (I' : Nat → Int32) (A' : Nat → Nat → Int32) (J' : Nat → Nat → Int64) (h : f_X6_canBe N I A J a1 = some (r, I', A', J')) : CtI l yX6_canBe cX6_canBe 7 (some .boolean) { frames := 3, cells := 0, slots := 0, locals := 67 } G [.ref (ad 0), .int a1] (w_X6 G ad I A J) (w_X6 G ad I' A' J') sz r := by
  refine ct_of (by decide) (Nat.le_of_ble_eq_true rfl) (fun p e s m below meth c ls C w hsz hl => ?_)
  have hx := C.1
  have hb := C.2.1
  have hl : lv_has ls 7 [(0, .ref (ad 0)), (1, .int a1)] := hl
  unfold f_X6_canBe at h
  refine lv_aload_n hx hb dX6_canBe_0 rfl (lv_at hl 0 rfl) ?_
  refine r_get C w 0 6 20 (.ref (ad 16)) ge_X6_0 rfl inX6 (by decide) tt_564 rfl dX6_canBe_1 ?_
  refine lv_iload_n hx hb dX6_canBe_4 rfl (lv_at hl 1 rfl) ?_
  obtain ⟨hin50, h⟩ := gdS h
  refine r_iald C w 16 (A 20 a1.toNatClampNeg) ge_X6_16 rfl hin50 dX6_canBe_5 ?_
  refine lv_istore_n (lv' := [(2, .int (A 20 a1.toNatClampNeg)), (0, .ref (ad 0)), (1, .int a1)]) hx hb dX6_canBe_6 rfl hl (by decide) rfl (fun ls hl => ?_)
  refine lv_aload_n hx hb dX6_canBe_7 rfl (lv_at hl 1 rfl) ?_
  refine r_get C w 0 6 13 (.ref (ad 10)) ge_X6_0 rfl inX6 (by decide) tt_557 rfl dX6_canBe_8 ?_
  refine lv_iload_n hx hb dX6_canBe_11 rfl (lv_at hl 0 rfl) ?_
  obtain ⟨hin51, h⟩ := gdS h
  refine r_iald C w 10 (A 13 (A 20 a1.toNatClampNeg).toNatClampNeg) ge_X6_10 rfl hin51 dX6_canBe_12 ?_
  refine lv_istore_n (lv' := [(3, .int (A 13 (A 20 a1.toNatClampNeg).toNatClampNeg)), (2, .int (A 20 a1.toNatClampNeg)), (0, .ref (ad 0)), (1, .int a1)]) hx hb dX6_canBe_13 rfl hl (by decide) rfl (fun ls hl => ?_)
  refine lv_iconst (v := 0) hx hb dX6_canBe_14 (by decide) ?_
  refine lv_istore (lv' := [(4, .int 0), (3, .int (A 13 (A 20 a1.toNatClampNeg).toNatClampNeg)), (2, .int (A 20 a1.toNatClampNeg)), (0, .ref (ad 0)), (1, .int a1)]) hx hb dX6_canBe_15 hl (by decide) rfl (fun ls hl => ?_)
  refine lv_iconst (v := 0) hx hb dX6_canBe_17 (by decide) ?_
  refine lv_istore (lv' := [(5, .int 0), (4, .int 0), (3, .int (A 13 (A 20 a1.toNatClampNeg).toNatClampNeg)), (2, .int (A 20 a1.toNatClampNeg)), (0, .ref (ad 0)), (1, .int a1)]) hx hb dX6_canBe_18 hl (by decide) rfl (fun ls hl => ?_)
  refine lv_aload_n hx hb dX6_canBe_20 rfl (lv_at hl 4 rfl) ?_
  refine r_get C w 0 6 26 (.ref (ad 20)) ge_X6_0 rfl inX6 (by decide) tt_570 rfl dX6_canBe_21 ?_
  refine lv_iconst (v := 0) hx hb dX6_canBe_24 (by decide) ?_
  refine lv_iconst (v := (-1)) hx hb dX6_canBe_25 (by decide) ?_
  obtain ⟨hin52, h⟩ := gdS h
  refine r_iast C w 20 (w_X6 G ad I (aS A 26 (0 : Int32).toNatClampNeg (-1)) J) ge_X6_20 hin52 st_X6_20 dX6_canBe_26 (fun H locs w => ?_)
  exact w_X6_canBe_27 C N N I (aS A 26 (0 : Int32).toNatClampNeg (-1)) J a1 (A 20 a1.toNatClampNeg) (A 13 (A 20 a1.toNatClampNeg).toNatClampNeg) 0 h _ _ w _ (lv_sub hl [4, 5, 3, 2, 1] rfl)
set_option maxHeartbeats 4000000 in
set_option maxRecDepth 100000 in
theorem c_X6_canEnd (l : Launch) (G : GG) (ad : Nat → Nat) (sz : Nat) (N : Nat) (I : Nat → Int32) (A : Nat → Nat → Int32) (J : Nat → Nat → Int64) (a1 : Int32) (r : Int32) (I' : Nat → Int32) (A' : Nat → Nat → Int32) (J' : Nat → Nat → Int64) (h : f_X6_canEnd N I A J a1 = some (r, I', A', J')) : CtI l yX6_canEnd cX6_canEnd 2 (some .int) { frames := 4, cells := 0, slots := 0, locals := 93 } G [.ref (ad 0), .int a1] (w_X6 G ad I A J) (w_X6 G ad I' A' J') sz r := by
  refine ct_of (by decide) (Nat.le_of_ble_eq_true rfl) (fun p e s m below meth c ls C w hsz hl => ?_)
  have hx := C.1
  have hb := C.2.1
  have hl : lv_has ls 2 [(0, .ref (ad 0)), (1, .int a1)] := hl
  unfold f_X6_canEnd at h
  refine lv_iload_n hx hb dX6_canEnd_0 rfl (lv_at hl 1 rfl) ?_
  refine lv_iconst (v := 0) hx hb dX6_canEnd_1 (by decide) ?_
  refine lv_aload_n hx hb dX6_canEnd_2 rfl (lv_at hl 0 rfl) ?_
  refine r_get C w 0 6 22 (.int (I 22)) ge_X6_0 rfl inX6 (by decide) tt_566 rfl dX6_canEnd_3 ?_
  refine lv_iconst (v := 1) hx hb dX6_canEnd_6 (by decide) ?_
  refine lv_isub hx hb dX6_canEnd_7 ?_
  obtain ⟨x3, hx3, h⟩ := bdS h
  have w0 : WD G _ ([] ++ ([] ++ (w_X6 G ad I A J))) s _ _ := w
  refine cl_i (wc' := []) w0 (run_S (As := [.int a1, .int 0, .int ((I 22) - 1)]) (rest := []) C w0 (c_X6_isIn l G  _ a1 0 ((I 22) - 1) x3 hx3) mt_X6_isIn tt_630 rfl rfl ⟨Nat.le_of_ble_eq_true rfl, Nat.le_of_ble_eq_true rfl⟩ hl.1 (Nat.le_of_ble_eq_true rfl) dX6_canEnd_8 ⟨Nat.le_of_ble_eq_true rfl, Nat.le_of_ble_eq_true rfl⟩) (fun H locs w => ?_)
  have w : WD G _ (w_X6 G ad I A J) s H locs := w
  refine lv_if_eq (tgt := 30) hx hb dX6_canEnd_11 (by decide) (fun c4 => ?_) (fun c4 => ?_)
  · rw [if_pos c4] at h
    refine lv_bipush (v := (-2)) hx hb dX6_canEnd_30 (by decide) ?_
    cases h
    exact ret_I C w rfl rfl dX6_canEnd_32
  · rw [if_neg c4] at h
    refine lv_aload_n hx hb dX6_canEnd_14 rfl (lv_at hl 0 rfl) ?_
    refine lv_iload_n hx hb dX6_canEnd_15 rfl (lv_at hl 1 rfl) ?_
    obtain ⟨x5, hx5, h⟩ := bdS h
    have w0 := w.z
    refine cl_i (wc' := (w_X6 G ad x5.2.1 x5.2.2.1 x5.2.2.2)) w0 (run_V (As := [.int a1]) (rest := []) C w0 (c_X6_canBe l G ad  _ N I A J a1 x5.1 x5.2.1 x5.2.2.1 x5.2.2.2 hx5) mt_X6_canBe tt_746 6 rfl rfl rfl rfl ⟨Nat.le_of_ble_eq_true rfl, Nat.le_of_ble_eq_true rfl⟩ hl.1 (Nat.le_of_ble_eq_true rfl) dX6_canEnd_16 ⟨Nat.le_of_ble_eq_true rfl, Nat.le_of_ble_eq_true rfl⟩) (fun H locs w => ?_)
    have w := w.uz
    refine lv_if_eq (tgt := 26) hx hb dX6_canEnd_19 (by decide) (fun c6 => ?_) (fun c6 => ?_)
    · rw [if_pos c6] at h
      refine lv_iconst (v := 0) hx hb dX6_canEnd_26 (by decide) ?_
      refine lv_goto (tgt := 32) hx hb dX6_canEnd_27 (by decide) ?_
      cases h
      exact ret_I C w rfl rfl dX6_canEnd_32
    · rw [if_neg c6] at h
      refine lv_iconst (v := 1) hx hb dX6_canEnd_22 (by decide) ?_
      refine lv_goto (tgt := 32) hx hb dX6_canEnd_23 (by decide) ?_
      cases h
      exact ret_I C w rfl rfl dX6_canEnd_32
set_option maxHeartbeats 4000000 in
set_option maxRecDepth 100000 in
theorem w_X6_perform_368 {p : Program} {l : Launch} {e : Env} {s : State} {m : MethodId} {args : Array Value} {below : List Frame} {meth : Method} {c : Code} {FA : Nat → Prop} {G : GG} {ad : Nat → Nat} {r : Int32} {I' : Nat → Int32} {A' : Nat → Nat → Int32} {J' : Nat → Nat → Int64}  (C : CX p m meth c s args yX6_perform cX6_perform 14 (some .int)) (N : Nat) : ∀ (I : Nat → Int32) (A : Nat → Nat → Int32) (J : Nat → Nat → Int64) (v1 : Int32) (v5 : Int32) (v12 : Int32) (v13 : Int32), f_X6_perform_368 N I A J v1 v5 v12 v13 = some (r, I', A', J') → ∀ (H : Heap) (locs : List Loc), WD G FA (w_X6 G ad I A J) s H locs → ∀ ls : Array Slot, lv_has ls 14 [(0, .ref (ad 0)), (1, .int v1), (5, .int v5), (12, .int v12), (13, .int v13)] → W p l e { frames := 4, cells := 0, slots := 0, locals := 93 } s m args below meth c H locs 0 0 (EnI below G FA args s (w_X6 G ad I' A' J') r) (F0 m 368 ls []) := by
  have hx := C.1
  have hb := C.2.1
  intro I A J v1 v5 v12 v13 h H locs w ls hl
  unfold f_X6_perform_368 at h
  refine lv_aload_n hx hb dX6_perform_368 rfl (lv_at hl 0 rfl) ?_
  refine r_get C w 0 6 21 (.ref (ad 17)) ge_X6_0 rfl inX6 (by decide) tt_565 rfl dX6_perform_369 ?_
  refine lv_iload hx hb dX6_perform_372 (lv_at hl 2 rfl) ?_
  refine lv_iload_n hx hb dX6_perform_374 rfl (lv_at hl 1 rfl) ?_
  refine lv_iadd hx hb dX6_perform_375 ?_
  refine lv_iconst (v := (-1)) hx hb dX6_perform_376 (by decide) ?_
  obtain ⟨hin20, h⟩ := gdS h
  refine r_iast C w 17 (w_X6 G ad I (aS A 21 (v5 + v1).toNatClampNeg (-1)) J) ge_X6_17 hin20 st_X6_17 dX6_perform_377 (fun H locs w => ?_)
  refine lv_iload hx hb dX6_perform_378 (lv_at hl 3 rfl) ?_
  refine lv_if_eq (tgt := 393) hx hb dX6_perform_380 (by decide) (fun c21 => ?_) (fun c21 => ?_)
  · rw [if_pos c21] at h
    refine lv_bipush (v := (-3)) hx hb dX6_perform_393 (by decide) ?_
    cases h
    exact ret_I C w rfl rfl dX6_perform_395
  · rw [if_neg c21] at h
    refine lv_iload hx hb dX6_perform_383 (lv_at hl 4 rfl) ?_
    refine lv_if_ne (tgt := 393) hx hb dX6_perform_385 (by decide) (fun c22 => ?_) (fun c22 => ?_)
    · rw [if_neg c22] at h
      refine lv_bipush (v := (-3)) hx hb dX6_perform_393 (by decide) ?_
      cases h
      exact ret_I C w rfl rfl dX6_perform_395
    · rw [if_pos c22] at h
      refine lv_bipush (v := (-22)) hx hb dX6_perform_388 (by decide) ?_
      refine lv_goto (tgt := 395) hx hb dX6_perform_390 (by decide) ?_
      cases h
      exact ret_I C w rfl rfl dX6_perform_395
set_option maxHeartbeats 4000000 in
set_option maxRecDepth 100000 in
theorem w_X6_perform_232 {p : Program} {l : Launch} {e : Env} {s : State} {m : MethodId} {args : Array Value} {below : List Frame} {meth : Method} {c : Code} {FA : Nat → Prop} {G : GG} {ad : Nat → Nat} {r : Int32} {I' : Nat → Int32} {A' : Nat → Nat → Int32} {J' : Nat → Nat → Int64}  (C : CX p m meth c s args yX6_perform cX6_perform 14 (some .int)) (N : Nat) (k75 : (Nat → Int32) → (Nat → Nat → Int32) → (Nat → Nat → Int64) → Int32 → Int32 → Int32 → Int32 → Int32 → Int32 → Int32 → Int32 → Int32 → Int32 → Int32 → Int32 → Option (Int32 × (Nat → Int32) × (Nat → Nat → Int32) × (Nat → Nat → Int64))) (hk75 : ∀ (I : Nat → Int32) (A : Nat → Nat → Int32) (J : Nat → Nat → Int64) (v1 : Int32) (v2 : Int32) (v3 : Int32) (v4 : Int32) (v5 : Int32) (v6 : Int32) (v7 : Int32) (v8 : Int32) (v9 : Int32) (v10 : Int32) (v11 : Int32) (v12 : Int32), k75 I A J v1 v2 v3 v4 v5 v6 v7 v8 v9 v10 v11 v12 = some (r, I', A', J') → ∀ (H : Heap) (locs : List Loc), WD G FA (w_X6 G ad I A J) s H locs → ∀ ls : Array Slot, lv_has ls 14 [(0, .ref (ad 0)), (1, .int v1), (2, .int v2), (3, .int v3), (4, .int v4), (5, .int v5), (6, .int v6), (7, .int v7), (8, .int v8), (9, .int v9), (10, .int v10), (11, .int v11), (12, .int v12)] → W p l e { frames := 4, cells := 0, slots := 0, locals := 93 } s m args below meth c H locs 0 0 (EnI below G FA args s (w_X6 G ad I' A' J') r) (F0 m 75 ls [])) : ∀ (I : Nat → Int32) (A : Nat → Nat → Int32) (J : Nat → Nat → Int64) (v1 : Int32) (v2 : Int32) (v3 : Int32) (v4 : Int32) (v5 : Int32) (v6 : Int32) (v7 : Int32) (v8 : Int32) (v9 : Int32) (v11 : Int32) (v12 : Int32) (v13 : Int32) (s0 : Int32), f_X6_perform_232 N k75 I A J v1 v2 v3 v4 v5 v6 v7 v8 v9 v11 v12 v13 s0 = some (r, I', A', J') → ∀ (H : Heap) (locs : List Loc), WD G FA (w_X6 G ad I A J) s H locs → ∀ ls : Array Slot, lv_has ls 14 [(0, .ref (ad 0)), (1, .int v1), (2, .int v2), (3, .int v3), (4, .int v4), (5, .int v5), (6, .int v6), (7, .int v7), (8, .int v8), (9, .int v9), (11, .int v11), (12, .int v12), (13, .int v13)] → W p l e { frames := 4, cells := 0, slots := 0, locals := 93 } s m args below meth c H locs 0 0 (EnI below G FA args s (w_X6 G ad I' A' J') r) (F0 m 232 ls [.int s0]) := by
  have hx := C.1
  have hb := C.2.1
  intro I A J v1 v2 v3 v4 v5 v6 v7 v8 v9 v11 v12 v13 s0 h H locs w ls hl
  unfold f_X6_perform_232 at h
  refine lv_istore (lv' := [(10, .int s0), (0, .ref (ad 0)), (1, .int v1), (2, .int v2), (3, .int v3), (4, .int v4), (5, .int v5), (6, .int v6), (7, .int v7), (8, .int v8), (9, .int v9), (11, .int v11), (12, .int v12), (13, .int v13)]) hx hb dX6_perform_232 hl (by decide) rfl (fun ls hl => ?_)
  refine lv_iload hx hb dX6_perform_234 (lv_at hl 13 rfl) ?_
  refine lv_if_ge (tgt := 246) hx hb dX6_perform_236 (by decide) (fun c23 => ?_) (fun c23 => ?_)
  · rw [if_pos c23] at h
    refine lv_iload hx hb dX6_perform_246 (lv_at hl 11 rfl) ?_
    refine lv_istore (lv' := [(11, .int v11), (10, .int s0), (0, .ref (ad 0)), (1, .int v1), (2, .int v2), (3, .int v3), (4, .int v4), (5, .int v5), (6, .int v6), (7, .int v7), (8, .int v8), (9, .int v9), (12, .int v12), (13, .int v13)]) hx hb dX6_perform_248 hl (by decide) rfl (fun ls hl => ?_)
    refine lv_iinc (v := v12 + 1) (lv' := [(12, .int (v12 + 1)), (11, .int v11), (10, .int s0), (0, .ref (ad 0)), (1, .int v1), (2, .int v2), (3, .int v3), (4, .int v4), (5, .int v5), (6, .int v6), (7, .int v7), (8, .int v8), (9, .int v9), (13, .int v13)]) hx hb dX6_perform_250 hl (k := 12) rfl rfl (by decide) rfl (fun ls hl => ?_)
    refine lv_goto (tgt := 75) hx hb dX6_perform_253 (by decide) ?_
    exact hk75 I A J v1 v2 v3 v4 v5 v6 v7 v8 v9 s0 v11 (v12 + 1) h _ _ w _ (lv_sub hl [3, 4, 5, 6, 7, 8, 9, 10, 11, 12, 2, 1, 0] rfl)
  · rw [if_neg c23] at h
    refine lv_iload hx hb dX6_perform_239 (lv_at hl 11 rfl) ?_
    refine lv_iconst (v := 1) hx hb dX6_perform_241 (by decide) ?_
    refine lv_iadd hx hb dX6_perform_242 ?_
    refine lv_goto (tgt := 248) hx hb dX6_perform_243 (by decide) ?_
    refine lv_istore (lv' := [(11, .int (v11 + 1)), (10, .int s0), (0, .ref (ad 0)), (1, .int v1), (2, .int v2), (3, .int v3), (4, .int v4), (5, .int v5), (6, .int v6), (7, .int v7), (8, .int v8), (9, .int v9), (12, .int v12), (13, .int v13)]) hx hb dX6_perform_248 hl (by decide) rfl (fun ls hl => ?_)
    refine lv_iinc (v := v12 + 1) (lv' := [(12, .int (v12 + 1)), (11, .int (v11 + 1)), (10, .int s0), (0, .ref (ad 0)), (1, .int v1), (2, .int v2), (3, .int v3), (4, .int v4), (5, .int v5), (6, .int v6), (7, .int v7), (8, .int v8), (9, .int v9), (13, .int v13)]) hx hb dX6_perform_250 hl (k := 12) rfl rfl (by decide) rfl (fun ls hl => ?_)
    refine lv_goto (tgt := 75) hx hb dX6_perform_253 (by decide) ?_
    exact hk75 I A J v1 v2 v3 v4 v5 v6 v7 v8 v9 s0 (v11 + 1) (v12 + 1) h _ _ w _ (lv_sub hl [3, 4, 5, 6, 7, 8, 9, 10, 11, 12, 2, 1, 0] rfl)
set_option maxHeartbeats 4000000 in
set_option maxRecDepth 100000 in
theorem w_X6_perform_170 {p : Program} {l : Launch} {e : Env} {s : State} {m : MethodId} {args : Array Value} {below : List Frame} {meth : Method} {c : Code} {FA : Nat → Prop} {G : GG} {ad : Nat → Nat} {r : Int32} {I' : Nat → Int32} {A' : Nat → Nat → Int32} {J' : Nat → Nat → Int64}  (C : CX p m meth c s args yX6_perform cX6_perform 14 (some .int)) (N : Nat) (k75 : (Nat → Int32) → (Nat → Nat → Int32) → (Nat → Nat → Int64) → Int32 → Int32 → Int32 → Int32 → Int32 → Int32 → Int32 → Int32 → Int32 → Int32 → Int32 → Int32 → Option (Int32 × (Nat → Int32) × (Nat → Nat → Int32) × (Nat → Nat → Int64))) (hk75 : ∀ (I : Nat → Int32) (A : Nat → Nat → Int32) (J : Nat → Nat → Int64) (v1 : Int32) (v2 : Int32) (v3 : Int32) (v4 : Int32) (v5 : Int32) (v6 : Int32) (v7 : Int32) (v8 : Int32) (v9 : Int32) (v10 : Int32) (v11 : Int32) (v12 : Int32), k75 I A J v1 v2 v3 v4 v5 v6 v7 v8 v9 v10 v11 v12 = some (r, I', A', J') → ∀ (H : Heap) (locs : List Loc), WD G FA (w_X6 G ad I A J) s H locs → ∀ ls : Array Slot, lv_has ls 14 [(0, .ref (ad 0)), (1, .int v1), (2, .int v2), (3, .int v3), (4, .int v4), (5, .int v5), (6, .int v6), (7, .int v7), (8, .int v8), (9, .int v9), (10, .int v10), (11, .int v11), (12, .int v12)] → W p l e { frames := 4, cells := 0, slots := 0, locals := 93 } s m args below meth c H locs 0 0 (EnI below G FA args s (w_X6 G ad I' A' J') r) (F0 m 75 ls [])) : ∀ (I : Nat → Int32) (A : Nat → Nat → Int32) (J : Nat → Nat → Int64) (v1 : Int32) (v2 : Int32) (v3 : Int32) (v4 : Int32) (v5 : Int32) (v6 : Int32) (v7 : Int32) (v9 : Int32) (v10 : Int32) (v11 : Int32) (v12 : Int32) (v13 : Int32) (s0 : Int32), f_X6_perform_170 N k75 I A J v1 v2 v3 v4 v5 v6 v7 v9 v10 v11 v12 v13 s0 = some (r, I', A', J') → ∀ (H : Heap) (locs : List Loc), WD G FA (w_X6 G ad I A J) s H locs → ∀ ls : Array Slot, lv_has ls 14 [(0, .ref (ad 0)), (1, .int v1), (2, .int v2), (3, .int v3), (4, .int v4), (5, .int v5), (6, .int v6), (7, .int v7), (9, .int v9), (10, .int v10), (11, .int v11), (12, .int v12), (13, .int v13)] → W p l e { frames := 4, cells := 0, slots := 0, locals := 93 } s m args below meth c H locs 0 0 (EnI below G FA args s (w_X6 G ad I' A' J') r) (F0 m 170 ls [.int s0]) := by
  have hx := C.1
  have hb := C.2.1
  intro I A J v1 v2 v3 v4 v5 v6 v7 v9 v10 v11 v12 v13 s0 h H locs w ls hl
  unfold f_X6_perform_170 at h
  refine lv_istore (lv' := [(8, .int s0), (0, .ref (ad 0)), (1, .int v1), (2, .int v2), (3, .int v3), (4, .int v4), (5, .int v5), (6, .int v6), (7, .int v7), (9, .int v9), (10, .int v10), (11, .int v11), (12, .int v12), (13, .int v13)]) hx hb dX6_perform_170 hl (by decide) rfl (fun ls hl => ?_)
  refine lv_iload hx hb dX6_perform_172 (lv_at hl 9 rfl) ?_
  refine lv_if_ne (tgt := 210) hx hb dX6_perform_174 (by decide) (fun c24 => ?_) (fun c24 => ?_)
  · rw [if_neg c24] at h
    refine lv_iconst (v := 1) hx hb dX6_perform_210 (by decide) ?_
    refine lv_goto (tgt := 215) hx hb dX6_perform_211 (by decide) ?_
    refine lv_istore (lv' := [(9, .int 1), (8, .int s0), (0, .ref (ad 0)), (1, .int v1), (2, .int v2), (3, .int v3), (4, .int v4), (5, .int v5), (6, .int v6), (7, .int v7), (10, .int v10), (11, .int v11), (12, .int v12), (13, .int v13)]) hx hb dX6_perform_215 hl (by decide) rfl (fun ls hl => ?_)
    refine lv_iload hx hb dX6_perform_217 (lv_at hl 13 rfl) ?_
    refine lv_iload_n hx hb dX6_perform_219 rfl (lv_at hl 5 rfl) ?_
    refine lv_icmp_ne (tgt := 230) hx hb dX6_perform_220 (by decide) (fun c25 => ?_) (fun c25 => ?_)
    · rw [if_neg c25] at h
      refine lv_iload hx hb dX6_perform_230 (lv_at hl 10 rfl) ?_
      exact w_X6_perform_232 C N k75 hk75 I A J v1 v2 v3 v4 v5 v6 v7 s0 1 v11 v12 v13 v10 h _ _ w _ (lv_sub hl [2, 3, 4, 5, 6, 7, 8, 9, 1, 0, 11, 12, 13] rfl)
    · rw [if_pos c25] at h
      refine lv_iload hx hb dX6_perform_223 (lv_at hl 10 rfl) ?_
      refine lv_iconst (v := 1) hx hb dX6_perform_225 (by decide) ?_
      refine lv_iadd hx hb dX6_perform_226 ?_
      refine lv_goto (tgt := 232) hx hb dX6_perform_227 (by decide) ?_
      exact w_X6_perform_232 C N k75 hk75 I A J v1 v2 v3 v4 v5 v6 v7 s0 1 v11 v12 v13 (v10 + 1) h _ _ w _ (lv_sub hl [2, 3, 4, 5, 6, 7, 8, 9, 1, 0, 11, 12, 13] rfl)
  · rw [if_pos c24] at h
    refine lv_iload hx hb dX6_perform_177 (lv_at hl 12 rfl) ?_
    refine lv_iload_n hx hb dX6_perform_179 rfl (lv_at hl 2 rfl) ?_
    refine lv_icmp_eq (tgt := 214) hx hb dX6_perform_180 (by decide) (fun c26 => ?_) (fun c26 => ?_)
    · rw [if_pos c26] at h
      refine lv_iconst (v := 0) hx hb dX6_perform_214 (by decide) ?_
      refine lv_istore (lv' := [(9, .int 0), (8, .int s0), (0, .ref (ad 0)), (1, .int v1), (2, .int v2), (3, .int v3), (4, .int v4), (5, .int v5), (6, .int v6), (7, .int v7), (10, .int v10), (11, .int v11), (12, .int v12), (13, .int v13)]) hx hb dX6_perform_215 hl (by decide) rfl (fun ls hl => ?_)
      refine lv_iload hx hb dX6_perform_217 (lv_at hl 13 rfl) ?_
      refine lv_iload_n hx hb dX6_perform_219 rfl (lv_at hl 5 rfl) ?_
      refine lv_icmp_ne (tgt := 230) hx hb dX6_perform_220 (by decide) (fun c27 => ?_) (fun c27 => ?_)
      · rw [if_neg c27] at h
        refine lv_iload hx hb dX6_perform_230 (lv_at hl 10 rfl) ?_
        exact w_X6_perform_232 C N k75 hk75 I A J v1 v2 v3 v4 v5 v6 v7 s0 0 v11 v12 v13 v10 h _ _ w _ (lv_sub hl [2, 3, 4, 5, 6, 7, 8, 9, 1, 0, 11, 12, 13] rfl)
      · rw [if_pos c27] at h
        refine lv_iload hx hb dX6_perform_223 (lv_at hl 10 rfl) ?_
        refine lv_iconst (v := 1) hx hb dX6_perform_225 (by decide) ?_
        refine lv_iadd hx hb dX6_perform_226 ?_
        refine lv_goto (tgt := 232) hx hb dX6_perform_227 (by decide) ?_
        exact w_X6_perform_232 C N k75 hk75 I A J v1 v2 v3 v4 v5 v6 v7 s0 0 v11 v12 v13 (v10 + 1) h _ _ w _ (lv_sub hl [2, 3, 4, 5, 6, 7, 8, 9, 1, 0, 11, 12, 13] rfl)
    · rw [if_neg c26] at h
      refine lv_iload hx hb dX6_perform_183 (lv_at hl 13 rfl) ?_
      refine lv_if_lt (tgt := 214) hx hb dX6_perform_185 (by decide) (fun c28 => ?_) (fun c28 => ?_)
      · rw [if_pos c28] at h
        refine lv_iconst (v := 0) hx hb dX6_perform_214 (by decide) ?_
        refine lv_istore (lv' := [(9, .int 0), (8, .int s0), (0, .ref (ad 0)), (1, .int v1), (2, .int v2), (3, .int v3), (4, .int v4), (5, .int v5), (6, .int v6), (7, .int v7), (10, .int v10), (11, .int v11), (12, .int v12), (13, .int v13)]) hx hb dX6_perform_215 hl (by decide) rfl (fun ls hl => ?_)
        refine lv_iload hx hb dX6_perform_217 (lv_at hl 13 rfl) ?_
        refine lv_iload_n hx hb dX6_perform_219 rfl (lv_at hl 5 rfl) ?_
        refine lv_icmp_ne (tgt := 230) hx hb dX6_perform_220 (by decide) (fun c29 => ?_) (fun c29 => ?_)
        · rw [if_neg c29] at h
          refine lv_iload hx hb dX6_perform_230 (lv_at hl 10 rfl) ?_
          exact w_X6_perform_232 C N k75 hk75 I A J v1 v2 v3 v4 v5 v6 v7 s0 0 v11 v12 v13 v10 h _ _ w _ (lv_sub hl [2, 3, 4, 5, 6, 7, 8, 9, 1, 0, 11, 12, 13] rfl)
        · rw [if_pos c29] at h
          refine lv_iload hx hb dX6_perform_223 (lv_at hl 10 rfl) ?_
          refine lv_iconst (v := 1) hx hb dX6_perform_225 (by decide) ?_
          refine lv_iadd hx hb dX6_perform_226 ?_
          refine lv_goto (tgt := 232) hx hb dX6_perform_227 (by decide) ?_
          exact w_X6_perform_232 C N k75 hk75 I A J v1 v2 v3 v4 v5 v6 v7 s0 0 v11 v12 v13 (v10 + 1) h _ _ w _ (lv_sub hl [2, 3, 4, 5, 6, 7, 8, 9, 1, 0, 11, 12, 13] rfl)
      · rw [if_neg c28] at h
        refine lv_iload hx hb dX6_perform_188 (lv_at hl 13 rfl) ?_
        refine lv_iload_n hx hb dX6_perform_190 rfl (lv_at hl 4 rfl) ?_
        refine lv_icmp_eq (tgt := 214) hx hb dX6_perform_191 (by decide) (fun c30 => ?_) (fun c30 => ?_)
        · rw [if_pos c30] at h
          refine lv_iconst (v := 0) hx hb dX6_perform_214 (by decide) ?_
          refine lv_istore (lv' := [(9, .int 0), (8, .int s0), (0, .ref (ad 0)), (1, .int v1), (2, .int v2), (3, .int v3), (4, .int v4), (5, .int v5), (6, .int v6), (7, .int v7), (10, .int v10), (11, .int v11), (12, .int v12), (13, .int v13)]) hx hb dX6_perform_215 hl (by decide) rfl (fun ls hl => ?_)
          refine lv_iload hx hb dX6_perform_217 (lv_at hl 13 rfl) ?_
          refine lv_iload_n hx hb dX6_perform_219 rfl (lv_at hl 5 rfl) ?_
          refine lv_icmp_ne (tgt := 230) hx hb dX6_perform_220 (by decide) (fun c31 => ?_) (fun c31 => ?_)
          · rw [if_neg c31] at h
            refine lv_iload hx hb dX6_perform_230 (lv_at hl 10 rfl) ?_
            exact w_X6_perform_232 C N k75 hk75 I A J v1 v2 v3 v4 v5 v6 v7 s0 0 v11 v12 v13 v10 h _ _ w _ (lv_sub hl [2, 3, 4, 5, 6, 7, 8, 9, 1, 0, 11, 12, 13] rfl)
          · rw [if_pos c31] at h
            refine lv_iload hx hb dX6_perform_223 (lv_at hl 10 rfl) ?_
            refine lv_iconst (v := 1) hx hb dX6_perform_225 (by decide) ?_
            refine lv_iadd hx hb dX6_perform_226 ?_
            refine lv_goto (tgt := 232) hx hb dX6_perform_227 (by decide) ?_
            exact w_X6_perform_232 C N k75 hk75 I A J v1 v2 v3 v4 v5 v6 v7 s0 0 v11 v12 v13 (v10 + 1) h _ _ w _ (lv_sub hl [2, 3, 4, 5, 6, 7, 8, 9, 1, 0, 11, 12, 13] rfl)
        · rw [if_neg c30] at h
          refine lv_aload_n hx hb dX6_perform_194 rfl (lv_at hl 1 rfl) ?_
          refine r_get C w 0 6 17 (.ref (ad 14)) ge_X6_0 rfl inX6 (by decide) tt_561 rfl dX6_perform_195 ?_
          refine lv_iload hx hb dX6_perform_198 (lv_at hl 5 rfl) ?_
          refine lv_iload hx hb dX6_perform_200 (lv_at hl 12 rfl) ?_
          refine lv_iload_n hx hb dX6_perform_202 rfl (lv_at hl 2 rfl) ?_
          obtain ⟨x32, hx32, h⟩ := bdS h
          have w0 : WD G _ ([] ++ ([] ++ (w_X6 G ad I A J))) s _ _ := w
          refine cl_i (wc' := []) w0 (run_S (As := [.int v4, .int v12, .int v1]) (rest := [.ref (ad 14)]) C w0 (c_X6_pair l G  _ v4 v12 v1 x32 hx32) mt_X6_pair tt_724 rfl rfl ⟨Nat.le_of_ble_eq_true rfl, Nat.le_of_ble_eq_true rfl⟩ hl.1 (Nat.le_of_ble_eq_true rfl) dX6_perform_203 ⟨Nat.le_of_ble_eq_true rfl, Nat.le_of_ble_eq_true rfl⟩) (fun H locs w => ?_)
          have w : WD G _ (w_X6 G ad I A J) s H locs := w
          obtain ⟨hin33, h⟩ := gdS h
          refine r_zald C w 14 (A 17 x32.toNatClampNeg) ge_X6_14 rfl hin33 dX6_perform_206 ?_
          refine lv_if_eq (tgt := 214) hx hb dX6_perform_207 (by decide) (fun c34 => ?_) (fun c34 => ?_)
          · rw [if_pos c34] at h
            refine lv_iconst (v := 0) hx hb dX6_perform_214 (by decide) ?_
            refine lv_istore (lv' := [(9, .int 0), (8, .int s0), (0, .ref (ad 0)), (1, .int v1), (2, .int v2), (3, .int v3), (4, .int v4), (5, .int v5), (6, .int v6), (7, .int v7), (10, .int v10), (11, .int v11), (12, .int v12), (13, .int v13)]) hx hb dX6_perform_215 hl (by decide) rfl (fun ls hl => ?_)
            refine lv_iload hx hb dX6_perform_217 (lv_at hl 13 rfl) ?_
            refine lv_iload_n hx hb dX6_perform_219 rfl (lv_at hl 5 rfl) ?_
            refine lv_icmp_ne (tgt := 230) hx hb dX6_perform_220 (by decide) (fun c35 => ?_) (fun c35 => ?_)
            · rw [if_neg c35] at h
              refine lv_iload hx hb dX6_perform_230 (lv_at hl 10 rfl) ?_
              exact w_X6_perform_232 C N k75 hk75 I A J v1 v2 v3 v4 v5 v6 v7 s0 0 v11 v12 v13 v10 h _ _ w _ (lv_sub hl [2, 3, 4, 5, 6, 7, 8, 9, 1, 0, 11, 12, 13] rfl)
            · rw [if_pos c35] at h
              refine lv_iload hx hb dX6_perform_223 (lv_at hl 10 rfl) ?_
              refine lv_iconst (v := 1) hx hb dX6_perform_225 (by decide) ?_
              refine lv_iadd hx hb dX6_perform_226 ?_
              refine lv_goto (tgt := 232) hx hb dX6_perform_227 (by decide) ?_
              exact w_X6_perform_232 C N k75 hk75 I A J v1 v2 v3 v4 v5 v6 v7 s0 0 v11 v12 v13 (v10 + 1) h _ _ w _ (lv_sub hl [2, 3, 4, 5, 6, 7, 8, 9, 1, 0, 11, 12, 13] rfl)
          · rw [if_neg c34] at h
            refine lv_iconst (v := 1) hx hb dX6_perform_210 (by decide) ?_
            refine lv_goto (tgt := 215) hx hb dX6_perform_211 (by decide) ?_
            refine lv_istore (lv' := [(9, .int 1), (8, .int s0), (0, .ref (ad 0)), (1, .int v1), (2, .int v2), (3, .int v3), (4, .int v4), (5, .int v5), (6, .int v6), (7, .int v7), (10, .int v10), (11, .int v11), (12, .int v12), (13, .int v13)]) hx hb dX6_perform_215 hl (by decide) rfl (fun ls hl => ?_)
            refine lv_iload hx hb dX6_perform_217 (lv_at hl 13 rfl) ?_
            refine lv_iload_n hx hb dX6_perform_219 rfl (lv_at hl 5 rfl) ?_
            refine lv_icmp_ne (tgt := 230) hx hb dX6_perform_220 (by decide) (fun c36 => ?_) (fun c36 => ?_)
            · rw [if_neg c36] at h
              refine lv_iload hx hb dX6_perform_230 (lv_at hl 10 rfl) ?_
              exact w_X6_perform_232 C N k75 hk75 I A J v1 v2 v3 v4 v5 v6 v7 s0 1 v11 v12 v13 v10 h _ _ w _ (lv_sub hl [2, 3, 4, 5, 6, 7, 8, 9, 1, 0, 11, 12, 13] rfl)
            · rw [if_pos c36] at h
              refine lv_iload hx hb dX6_perform_223 (lv_at hl 10 rfl) ?_
              refine lv_iconst (v := 1) hx hb dX6_perform_225 (by decide) ?_
              refine lv_iadd hx hb dX6_perform_226 ?_
              refine lv_goto (tgt := 232) hx hb dX6_perform_227 (by decide) ?_
              exact w_X6_perform_232 C N k75 hk75 I A J v1 v2 v3 v4 v5 v6 v7 s0 1 v11 v12 v13 (v10 + 1) h _ _ w _ (lv_sub hl [2, 3, 4, 5, 6, 7, 8, 9, 1, 0, 11, 12, 13] rfl)
set_option maxHeartbeats 4000000 in
set_option maxRecDepth 100000 in
theorem w_X6_perform_130 {p : Program} {l : Launch} {e : Env} {s : State} {m : MethodId} {args : Array Value} {below : List Frame} {meth : Method} {c : Code} {FA : Nat → Prop} {G : GG} {ad : Nat → Nat} {r : Int32} {I' : Nat → Int32} {A' : Nat → Nat → Int32} {J' : Nat → Nat → Int64}  (C : CX p m meth c s args yX6_perform cX6_perform 14 (some .int)) (N : Nat) (k75 : (Nat → Int32) → (Nat → Nat → Int32) → (Nat → Nat → Int64) → Int32 → Int32 → Int32 → Int32 → Int32 → Int32 → Int32 → Int32 → Int32 → Int32 → Int32 → Int32 → Option (Int32 × (Nat → Int32) × (Nat → Nat → Int32) × (Nat → Nat → Int64))) (hk75 : ∀ (I : Nat → Int32) (A : Nat → Nat → Int32) (J : Nat → Nat → Int64) (v1 : Int32) (v2 : Int32) (v3 : Int32) (v4 : Int32) (v5 : Int32) (v6 : Int32) (v7 : Int32) (v8 : Int32) (v9 : Int32) (v10 : Int32) (v11 : Int32) (v12 : Int32), k75 I A J v1 v2 v3 v4 v5 v6 v7 v8 v9 v10 v11 v12 = some (r, I', A', J') → ∀ (H : Heap) (locs : List Loc), WD G FA (w_X6 G ad I A J) s H locs → ∀ ls : Array Slot, lv_has ls 14 [(0, .ref (ad 0)), (1, .int v1), (2, .int v2), (3, .int v3), (4, .int v4), (5, .int v5), (6, .int v6), (7, .int v7), (8, .int v8), (9, .int v9), (10, .int v10), (11, .int v11), (12, .int v12)] → W p l e { frames := 4, cells := 0, slots := 0, locals := 93 } s m args below meth c H locs 0 0 (EnI below G FA args s (w_X6 G ad I' A' J') r) (F0 m 75 ls [])) : ∀ (I : Nat → Int32) (A : Nat → Nat → Int32) (J : Nat → Nat → Int64) (v1 : Int32) (v2 : Int32) (v3 : Int32) (v4 : Int32) (v5 : Int32) (v6 : Int32) (v8 : Int32) (v9 : Int32) (v10 : Int32) (v11 : Int32) (v12 : Int32) (v13 : Int32) (s0 : Int32), f_X6_perform_130 N k75 I A J v1 v2 v3 v4 v5 v6 v8 v9 v10 v11 v12 v13 s0 = some (r, I', A', J') → ∀ (H : Heap) (locs : List Loc), WD G FA (w_X6 G ad I A J) s H locs → ∀ ls : Array Slot, lv_has ls 14 [(0, .ref (ad 0)), (1, .int v1), (2, .int v2), (3, .int v3), (4, .int v4), (5, .int v5), (6, .int v6), (8, .int v8), (9, .int v9), (10, .int v10), (11, .int v11), (12, .int v12), (13, .int v13)] → W p l e { frames := 4, cells := 0, slots := 0, locals := 93 } s m args below meth c H locs 0 0 (EnI below G FA args s (w_X6 G ad I' A' J') r) (F0 m 130 ls [.int s0]) := by
  have hx := C.1
  have hb := C.2.1
  intro I A J v1 v2 v3 v4 v5 v6 v8 v9 v10 v11 v12 v13 s0 h H locs w ls hl
  unfold f_X6_perform_130 at h
  refine lv_istore (lv' := [(7, .int s0), (0, .ref (ad 0)), (1, .int v1), (2, .int v2), (3, .int v3), (4, .int v4), (5, .int v5), (6, .int v6), (8, .int v8), (9, .int v9), (10, .int v10), (11, .int v11), (12, .int v12), (13, .int v13)]) hx hb dX6_perform_130 hl (by decide) rfl (fun ls hl => ?_)
  refine lv_iload hx hb dX6_perform_132 (lv_at hl 8 rfl) ?_
  refine lv_if_ne (tgt := 165) hx hb dX6_perform_134 (by decide) (fun c37 => ?_) (fun c37 => ?_)
  · rw [if_neg c37] at h
    refine lv_iconst (v := 1) hx hb dX6_perform_165 (by decide) ?_
    refine lv_goto (tgt := 170) hx hb dX6_perform_166 (by decide) ?_
    exact w_X6_perform_170 C N k75 hk75 I A J v1 v2 v3 v4 v5 v6 s0 v9 v10 v11 v12 v13 1 h _ _ w _ (lv_sub hl [1, 2, 3, 4, 5, 6, 7, 0, 9, 10, 11, 12, 13] rfl)
  · rw [if_pos c37] at h
    refine lv_iload hx hb dX6_perform_137 (lv_at hl 12 rfl) ?_
    refine lv_iload_n hx hb dX6_perform_139 rfl (lv_at hl 2 rfl) ?_
    refine lv_icmp_eq (tgt := 169) hx hb dX6_perform_140 (by decide) (fun c38 => ?_) (fun c38 => ?_)
    · rw [if_pos c38] at h
      refine lv_iconst (v := 0) hx hb dX6_perform_169 (by decide) ?_
      exact w_X6_perform_170 C N k75 hk75 I A J v1 v2 v3 v4 v5 v6 s0 v9 v10 v11 v12 v13 0 h _ _ w _ (lv_sub hl [1, 2, 3, 4, 5, 6, 7, 0, 9, 10, 11, 12, 13] rfl)
    · rw [if_neg c38] at h
      refine lv_iload hx hb dX6_perform_143 (lv_at hl 13 rfl) ?_
      refine lv_iload_n hx hb dX6_perform_145 rfl (lv_at hl 4 rfl) ?_
      refine lv_icmp_ne (tgt := 169) hx hb dX6_perform_146 (by decide) (fun c39 => ?_) (fun c39 => ?_)
      · rw [if_neg c39] at h
        refine lv_iconst (v := 0) hx hb dX6_perform_169 (by decide) ?_
        exact w_X6_perform_170 C N k75 hk75 I A J v1 v2 v3 v4 v5 v6 s0 v9 v10 v11 v12 v13 0 h _ _ w _ (lv_sub hl [1, 2, 3, 4, 5, 6, 7, 0, 9, 10, 11, 12, 13] rfl)
      · rw [if_pos c39] at h
        refine lv_aload_n hx hb dX6_perform_149 rfl (lv_at hl 1 rfl) ?_
        refine r_get C w 0 6 16 (.ref (ad 13)) ge_X6_0 rfl inX6 (by decide) tt_560 rfl dX6_perform_150 ?_
        refine lv_iload hx hb dX6_perform_153 (lv_at hl 5 rfl) ?_
        refine lv_iload hx hb dX6_perform_155 (lv_at hl 12 rfl) ?_
        refine lv_iload_n hx hb dX6_perform_157 rfl (lv_at hl 2 rfl) ?_
        obtain ⟨x40, hx40, h⟩ := bdS h
        have w0 : WD G _ ([] ++ ([] ++ (w_X6 G ad I A J))) s _ _ := w
        refine cl_i (wc' := []) w0 (run_S (As := [.int v4, .int v12, .int v1]) (rest := [.ref (ad 13)]) C w0 (c_X6_pair l G  _ v4 v12 v1 x40 hx40) mt_X6_pair tt_724 rfl rfl ⟨Nat.le_of_ble_eq_true rfl, Nat.le_of_ble_eq_true rfl⟩ hl.1 (Nat.le_of_ble_eq_true rfl) dX6_perform_158 ⟨Nat.le_of_ble_eq_true rfl, Nat.le_of_ble_eq_true rfl⟩) (fun H locs w => ?_)
        have w : WD G _ (w_X6 G ad I A J) s H locs := w
        obtain ⟨hin41, h⟩ := gdS h
        refine r_zald C w 13 (A 16 x40.toNatClampNeg) ge_X6_13 rfl hin41 dX6_perform_161 ?_
        refine lv_if_eq (tgt := 169) hx hb dX6_perform_162 (by decide) (fun c42 => ?_) (fun c42 => ?_)
        · rw [if_pos c42] at h
          refine lv_iconst (v := 0) hx hb dX6_perform_169 (by decide) ?_
          exact w_X6_perform_170 C N k75 hk75 I A J v1 v2 v3 v4 v5 v6 s0 v9 v10 v11 v12 v13 0 h _ _ w _ (lv_sub hl [1, 2, 3, 4, 5, 6, 7, 0, 9, 10, 11, 12, 13] rfl)
        · rw [if_neg c42] at h
          refine lv_iconst (v := 1) hx hb dX6_perform_165 (by decide) ?_
          refine lv_goto (tgt := 170) hx hb dX6_perform_166 (by decide) ?_
          exact w_X6_perform_170 C N k75 hk75 I A J v1 v2 v3 v4 v5 v6 s0 v9 v10 v11 v12 v13 1 h _ _ w _ (lv_sub hl [1, 2, 3, 4, 5, 6, 7, 0, 9, 10, 11, 12, 13] rfl)
set_option maxHeartbeats 4000000 in
set_option maxRecDepth 100000 in
theorem w_X6_perform_358 {p : Program} {l : Launch} {e : Env} {s : State} {m : MethodId} {args : Array Value} {below : List Frame} {meth : Method} {c : Code} {FA : Nat → Prop} {G : GG} {ad : Nat → Nat} {r : Int32} {I' : Nat → Int32} {A' : Nat → Nat → Int32} {J' : Nat → Nat → Int64}  (C : CX p m meth c s args yX6_perform cX6_perform 14 (some .int)) (N : Nat) : ∀ (I : Nat → Int32) (A : Nat → Nat → Int32) (J : Nat → Nat → Int64) (v1 : Int32) (v2 : Int32) (v3 : Int32) (v5 : Int32) (v11 : Int32) (v12 : Int32) (v13 : Int32), f_X6_perform_358 N I A J v1 v2 v3 v5 v11 v12 v13 = some (r, I', A', J') → ∀ (H : Heap) (locs : List Loc), WD G FA (w_X6 G ad I A J) s H locs → ∀ ls : Array Slot, lv_has ls 14 [(0, .ref (ad 0)), (1, .int v1), (2, .int v2), (3, .int v3), (5, .int v5), (11, .int v11), (12, .int v12), (13, .int v13)] → W p l e { frames := 4, cells := 0, slots := 0, locals := 93 } s m args below meth c H locs 0 0 (EnI below G FA args s (w_X6 G ad I' A' J') r) (F0 m 358 ls []) := by
  have hx := C.1
  have hb := C.2.1
  intro I A J v1 v2 v3 v5 v11 v12 v13 h H locs w ls hl
  unfold f_X6_perform_358 at h
  refine lv_aload_n hx hb dX6_perform_358 rfl (lv_at hl 0 rfl) ?_
  refine r_get C w 0 6 25 (.int (I 25)) ge_X6_0 rfl inX6 (by decide) tt_569 rfl dX6_perform_359 ?_
  refine lv_sipush (v := (240)) hx hb dX6_perform_362 (by decide) ?_
  refine lv_icmp_ne (tgt := 396) hx hb dX6_perform_365 (by decide) (fun c43 => ?_) (fun c43 => ?_)
  · rw [if_neg c43] at h
    refine lv_aload_n hx hb dX6_perform_396 rfl (lv_at hl 0 rfl) ?_
    refine lv_iconst (v := 5) hx hb dX6_perform_397 (by decide) ?_
    refine lv_iload_n hx hb dX6_perform_398 rfl (lv_at hl 3 rfl) ?_
    refine lv_bipush (v := (8)) hx hb dX6_perform_399 (by decide) ?_
    refine lv_iload_n hx hb dX6_perform_401 rfl (lv_at hl 2 rfl) ?_
    refine lv_imul hx hb dX6_perform_402 ?_
    refine lv_iload_n hx hb dX6_perform_403 rfl (lv_at hl 1 rfl) ?_
    refine lv_iadd hx hb dX6_perform_404 ?_
    refine lv_iconst (v := 0) hx hb dX6_perform_405 (by decide) ?_
    obtain ⟨x44, hx44, h⟩ := bdS h
    have w0 := w.z
    refine cl_v (wc' := (w_X6 G ad x44.1 x44.2.1 x44.2.2)) w0 (run_V (As := [.int 5, .int v3, .int ((8 * v2) + v1), .int 0]) (rest := []) C w0 (c_X6_enter l G ad  _ N I A J 5 v3 ((8 * v2) + v1) 0 x44.1 x44.2.1 x44.2.2 hx44) mt_X6_enter tt_669 6 rfl rfl rfl rfl ⟨Nat.le_of_ble_eq_true rfl, Nat.le_of_ble_eq_true rfl⟩ hl.1 (Nat.le_of_ble_eq_true rfl) dX6_perform_406 ⟨Nat.le_of_ble_eq_true rfl, Nat.le_of_ble_eq_true rfl⟩) (fun H locs w => ?_)
    have w := w.uz
    refine lv_iload hx hb dX6_perform_409 (lv_at hl 5 rfl) ?_
    refine lv_iconst (v := 1) hx hb dX6_perform_411 (by decide) ?_
    refine lv_isub hx hb dX6_perform_412 ?_
    cases h
    exact ret_I C w rfl rfl dX6_perform_413
  · rw [if_pos c43] at h
    exact w_X6_perform_368 C N I A J v1 v5 v12 v13 h _ _ w _ (lv_sub hl [0, 1, 4, 6, 7] rfl)
set_option maxHeartbeats 4000000 in
set_option maxRecDepth 100000 in
theorem w_X6_perform_75 {p : Program} {l : Launch} {e : Env} {s : State} {m : MethodId} {args : Array Value} {below : List Frame} {meth : Method} {c : Code} {FA : Nat → Prop} {G : GG} {ad : Nat → Nat} {r : Int32} {I' : Nat → Int32} {A' : Nat → Nat → Int32} {J' : Nat → Nat → Int64}  (C : CX p m meth c s args yX6_perform cX6_perform 14 (some .int)) (N : Nat) : ∀ n : Nat, ∀ (I : Nat → Int32) (A : Nat → Nat → Int32) (J : Nat → Nat → Int64) (v1 : Int32) (v2 : Int32) (v3 : Int32) (v4 : Int32) (v5 : Int32) (v6 : Int32) (v7 : Int32) (v8 : Int32) (v9 : Int32) (v10 : Int32) (v11 : Int32) (v12 : Int32), f_X6_perform_75 N n I A J v1 v2 v3 v4 v5 v6 v7 v8 v9 v10 v11 v12 = some (r, I', A', J') → ∀ (H : Heap) (locs : List Loc), WD G FA (w_X6 G ad I A J) s H locs → ∀ ls : Array Slot, lv_has ls 14 [(0, .ref (ad 0)), (1, .int v1), (2, .int v2), (3, .int v3), (4, .int v4), (5, .int v5), (6, .int v6), (7, .int v7), (8, .int v8), (9, .int v9), (10, .int v10), (11, .int v11), (12, .int v12)] → W p l e { frames := 4, cells := 0, slots := 0, locals := 93 } s m args below meth c H locs 0 0 (EnI below G FA args s (w_X6 G ad I' A' J') r) (F0 m 75 ls []) := by
  have hx := C.1
  have hb := C.2.1
  intro n
  induction n with
  | zero =>
    intro I A J v1 v2 v3 v4 v5 v6 v7 v8 v9 v10 v11 v12 h
    cases h
  | succ n ih =>
    intro I A J v1 v2 v3 v4 v5 v6 v7 v8 v9 v10 v11 v12 h H locs w ls hl
    rw [f_X6_perform_75] at h
    refine lv_iload hx hb dX6_perform_75 (lv_at hl 12 rfl) ?_
    refine lv_iload hx hb dX6_perform_77 (lv_at hl 6 rfl) ?_
    refine lv_icmp_ge (tgt := 256) hx hb dX6_perform_79 (by decide) (fun c45 => ?_) (fun c45 => ?_)
    · rw [if_pos c45] at h
      refine lv_iload hx hb dX6_perform_256 (lv_at hl 7 rfl) ?_
      refine lv_if_eq (tgt := 264) hx hb dX6_perform_258 (by decide) (fun c46 => ?_) (fun c46 => ?_)
      · rw [if_pos c46] at h
        refine lv_aload_n hx hb dX6_perform_264 rfl (lv_at hl 0 rfl) ?_
        refine r_get C w 0 6 1 (.ref (ad 1)) ge_X6_0 rfl inX6 (by decide) tt_545 rfl dX6_perform_265 ?_
        refine lv_iload_n hx hb dX6_perform_268 rfl (lv_at hl 3 rfl) ?_
        obtain ⟨hin47, h⟩ := gdS h
        refine r_iald C w 1 (A 1 v3.toNatClampNeg) ge_X6_1 rfl hin47 dX6_perform_269 ?_
        refine lv_aload_n hx hb dX6_perform_270 rfl (lv_at hl 0 rfl) ?_
        refine r_get C w 0 6 14 (.ref (ad 11)) ge_X6_0 rfl inX6 (by decide) tt_558 rfl dX6_perform_271 ?_
        refine lv_bipush (v := (6)) hx hb dX6_perform_274 (by decide) ?_
        refine lv_iload hx hb dX6_perform_276 (lv_at hl 4 rfl) ?_
        refine lv_imul hx hb dX6_perform_278 ?_
        refine lv_iload_n hx hb dX6_perform_279 rfl (lv_at hl 1 rfl) ?_
        refine lv_iadd hx hb dX6_perform_280 ?_
        obtain ⟨hin48, h⟩ := gdS h
        refine r_iald C w 11 (A 14 ((6 * v4) + v1).toNatClampNeg) ge_X6_11 rfl hin48 dX6_perform_281 ?_
        refine lv_ishr hx hb dX6_perform_282 ?_
        refine lv_iconst (v := 1) hx hb dX6_perform_283 (by decide) ?_
        refine lv_iand hx hb dX6_perform_284 ?_
        refine lv_if_ne (tgt := 291) hx hb dX6_perform_285 (by decide) (fun c49 => ?_) (fun c49 => ?_)
        · rw [if_neg c49] at h
          refine lv_iload hx hb dX6_perform_291 (lv_at hl 8 rfl) ?_
          refine lv_if_eq (tgt := 299) hx hb dX6_perform_293 (by decide) (fun c50 => ?_) (fun c50 => ?_)
          · rw [if_pos c50] at h
            refine lv_iload hx hb dX6_perform_299 (lv_at hl 9 rfl) ?_
            refine lv_if_eq (tgt := 307) hx hb dX6_perform_301 (by decide) (fun c51 => ?_) (fun c51 => ?_)
            · rw [if_pos c51] at h
              refine lv_iload hx hb dX6_perform_307 (lv_at hl 10 rfl) ?_
              refine lv_iconst (v := 1) hx hb dX6_perform_309 (by decide) ?_
              refine lv_iadd hx hb dX6_perform_310 ?_
              refine lv_aload_n hx hb dX6_perform_311 rfl (lv_at hl 0 rfl) ?_
              refine r_get C w 0 6 18 (.ref (ad 15)) ge_X6_0 rfl inX6 (by decide) tt_562 rfl dX6_perform_312 ?_
              refine lv_iload hx hb dX6_perform_315 (lv_at hl 4 rfl) ?_
              obtain ⟨hin52, h⟩ := gdS h
              refine r_iald C w 15 (A 18 v4.toNatClampNeg) ge_X6_15 rfl hin52 dX6_perform_317 ?_
              refine lv_icmp_le (tgt := 324) hx hb dX6_perform_318 (by decide) (fun c53 => ?_) (fun c53 => ?_)
              · rw [if_pos c53] at h
                refine lv_aload_n hx hb dX6_perform_324 rfl (lv_at hl 0 rfl) ?_
                refine lv_iload_n hx hb dX6_perform_325 rfl (lv_at hl 2 rfl) ?_
                obtain ⟨x54, hx54, h⟩ := bdS h
                have w0 := w.z
                refine cl_i (wc' := (w_X6 G ad x54.2.1 x54.2.2.1 x54.2.2.2)) w0 (run_V (As := [.int v2]) (rest := []) C w0 (c_X6_canBe l G ad  _ N I A J v2 x54.1 x54.2.1 x54.2.2.1 x54.2.2.2 hx54) mt_X6_canBe tt_746 6 rfl rfl rfl rfl ⟨Nat.le_of_ble_eq_true rfl, Nat.le_of_ble_eq_true rfl⟩ hl.1 (Nat.le_of_ble_eq_true rfl) dX6_perform_326 ⟨Nat.le_of_ble_eq_true rfl, Nat.le_of_ble_eq_true rfl⟩) (fun H locs w => ?_)
                have w := w.uz
                refine lv_istore (lv' := [(12, .int x54.1), (0, .ref (ad 0)), (1, .int v1), (2, .int v2), (3, .int v3), (4, .int v4), (5, .int v5), (6, .int v6), (7, .int v7), (8, .int v8), (9, .int v9), (10, .int v10), (11, .int v11)]) hx hb dX6_perform_329 hl (by decide) rfl (fun ls hl => ?_)
                refine lv_aload_n hx hb dX6_perform_331 rfl (lv_at hl 1 rfl) ?_
                refine r_get C w 0 6 21 (.ref (ad 17)) ge_X6_0 rfl inX6 (by decide) tt_565 rfl dX6_perform_332 ?_
                refine lv_iload hx hb dX6_perform_335 (lv_at hl 6 rfl) ?_
                refine lv_iload_n hx hb dX6_perform_337 rfl (lv_at hl 2 rfl) ?_
                refine lv_iadd hx hb dX6_perform_338 ?_
                refine lv_iload_n hx hb dX6_perform_339 rfl (lv_at hl 4 rfl) ?_
                obtain ⟨hin55, h⟩ := gdS h
                refine r_iast C w 17 (w_X6 G ad x54.2.1 (aS x54.2.2.1 21 (v5 + v1).toNatClampNeg v3) x54.2.2.2) ge_X6_17 hin55 st_X6_17 dX6_perform_340 (fun H locs w => ?_)
                refine lv_aload_n hx hb dX6_perform_341 rfl (lv_at hl 1 rfl) ?_
                refine lv_iload_n hx hb dX6_perform_342 rfl (lv_at hl 3 rfl) ?_
                obtain ⟨x56, hx56, h⟩ := bdS h
                have w0 := w.z
                refine cl_i (wc' := (w_X6 G ad x56.2.1 x56.2.2.1 x56.2.2.2)) w0 (run_V (As := [.int v2]) (rest := []) C w0 (c_X6_canBe l G ad  _ N x54.2.1 (aS x54.2.2.1 21 (v5 + v1).toNatClampNeg v3) x54.2.2.2 v2 x56.1 x56.2.1 x56.2.2.1 x56.2.2.2 hx56) mt_X6_canBe tt_746 6 rfl rfl rfl rfl ⟨Nat.le_of_ble_eq_true rfl, Nat.le_of_ble_eq_true rfl⟩ hl.1 (Nat.le_of_ble_eq_true rfl) dX6_perform_343 ⟨Nat.le_of_ble_eq_true rfl, Nat.le_of_ble_eq_true rfl⟩) (fun H locs w => ?_)
                have w := w.uz
                refine lv_istore (lv' := [(13, .int x56.1), (12, .int x54.1), (0, .ref (ad 0)), (1, .int v1), (2, .int v2), (3, .int v3), (4, .int v4), (5, .int v5), (6, .int v6), (7, .int v7), (8, .int v8), (9, .int v9), (10, .int v10), (11, .int v11)]) hx hb dX6_perform_346 hl (by decide) rfl (fun ls hl => ?_)
                refine lv_iload hx hb dX6_perform_348 (lv_at hl 1 rfl) ?_
                refine lv_if_eq (tgt := 358) hx hb dX6_perform_350 (by decide) (fun c57 => ?_) (fun c57 => ?_)
                · rw [if_pos c57] at h
                  exact w_X6_perform_358 C N x56.2.1 x56.2.2.1 x56.2.2.2 v1 v2 v3 v5 v11 x54.1 x56.1 h _ _ w _ (lv_sub hl [2, 3, 4, 5, 7, 13, 1, 0] rfl)
                · rw [if_neg c57] at h
                  refine lv_iload hx hb dX6_perform_353 (lv_at hl 0 rfl) ?_
                  refine lv_if_eq (tgt := 368) hx hb dX6_perform_355 (by decide) (fun c58 => ?_) (fun c58 => ?_)
                  · rw [if_pos c58] at h
                    exact w_X6_perform_368 C N x56.2.1 x56.2.2.1 x56.2.2.2 v1 v5 x54.1 x56.1 h _ _ w _ (lv_sub hl [2, 3, 7, 1, 0] rfl)
                  · rw [if_neg c58] at h
                    exact w_X6_perform_358 C N x56.2.1 x56.2.2.1 x56.2.2.2 v1 v2 v3 v5 v11 x54.1 x56.1 h _ _ w _ (lv_sub hl [2, 3, 4, 5, 7, 13, 1, 0] rfl)
              · rw [if_neg c53] at h
                refine lv_bipush (v := (-21)) hx hb dX6_perform_321 (by decide) ?_
                cases h
                exact ret_I C w rfl rfl dX6_perform_323
            · rw [if_neg c51] at h
              refine lv_bipush (v := (-20)) hx hb dX6_perform_304 (by decide) ?_
              cases h
              exact ret_I C w rfl rfl dX6_perform_306
          · rw [if_neg c50] at h
            refine lv_bipush (v := (-19)) hx hb dX6_perform_296 (by decide) ?_
            cases h
            exact ret_I C w rfl rfl dX6_perform_298
        · rw [if_pos c49] at h
          refine lv_bipush (v := (-18)) hx hb dX6_perform_288 (by decide) ?_
          cases h
          exact ret_I C w rfl rfl dX6_perform_290
      · rw [if_neg c46] at h
        refine lv_bipush (v := (-17)) hx hb dX6_perform_261 (by decide) ?_
        cases h
        exact ret_I C w rfl rfl dX6_perform_263
    · rw [if_neg c45] at h
      refine lv_aload_n hx hb dX6_perform_82 rfl (lv_at hl 0 rfl) ?_
      refine r_get C w 0 6 21 (.ref (ad 17)) ge_X6_0 rfl inX6 (by decide) tt_565 rfl dX6_perform_83 ?_
      refine lv_iload hx hb dX6_perform_86 (lv_at hl 5 rfl) ?_
      refine lv_iload hx hb dX6_perform_88 (lv_at hl 12 rfl) ?_
      refine lv_iadd hx hb dX6_perform_90 ?_
      obtain ⟨hin59, h⟩ := gdS h
      refine r_iald C w 17 (A 21 (v5 + v12).toNatClampNeg) ge_X6_17 rfl hin59 dX6_perform_91 ?_
      refine lv_istore (lv' := [(13, .int (A 21 (v5 + v12).toNatClampNeg)), (0, .ref (ad 0)), (1, .int v1), (2, .int v2), (3, .int v3), (4, .int v4), (5, .int v5), (6, .int v6), (7, .int v7), (8, .int v8), (9, .int v9), (10, .int v10), (11, .int v11), (12, .int v12)]) hx hb dX6_perform_92 hl (by decide) rfl (fun ls hl => ?_)
      refine lv_iload hx hb dX6_perform_94 (lv_at hl 8 rfl) ?_
      refine lv_if_ne (tgt := 125) hx hb dX6_perform_96 (by decide) (fun c60 => ?_) (fun c60 => ?_)
      · rw [if_neg c60] at h
        refine lv_iconst (v := 1) hx hb dX6_perform_125 (by decide) ?_
        refine lv_goto (tgt := 130) hx hb dX6_perform_126 (by decide) ?_
        exact w_X6_perform_130 C N _ ih I A J v1 v2 v3 v4 v5 v6 v8 v9 v10 v11 v12 (A 21 (v5 + v12).toNatClampNeg) 1 h _ _ w _ (lv_sub hl [1, 2, 3, 4, 5, 6, 7, 9, 10, 11, 12, 13, 0] rfl)
      · rw [if_pos c60] at h
        refine lv_aload_n hx hb dX6_perform_99 rfl (lv_at hl 1 rfl) ?_
        refine r_get C w 0 6 15 (.ref (ad 12)) ge_X6_0 rfl inX6 (by decide) tt_559 rfl dX6_perform_100 ?_
        refine lv_bipush (v := (6)) hx hb dX6_perform_103 (by decide) ?_
        refine lv_iload hx hb dX6_perform_105 (lv_at hl 5 rfl) ?_
        refine lv_imul hx hb dX6_perform_107 ?_
        refine lv_iload_n hx hb dX6_perform_108 rfl (lv_at hl 2 rfl) ?_
        refine lv_iadd hx hb dX6_perform_109 ?_
        obtain ⟨hin61, h⟩ := gdS h
        refine r_iald C w 12 (A 15 ((6 * v4) + v1).toNatClampNeg) ge_X6_12 rfl hin61 dX6_perform_110 ?_
        refine lv_iload hx hb dX6_perform_111 (lv_at hl 13 rfl) ?_
        refine lv_ishr hx hb dX6_perform_113 ?_
        refine lv_iconst (v := 1) hx hb dX6_perform_114 (by decide) ?_
        refine lv_iand hx hb dX6_perform_115 ?_
        refine lv_iconst (v := 1) hx hb dX6_perform_116 (by decide) ?_
        refine lv_icmp_ne (tgt := 129) hx hb dX6_perform_117 (by decide) (fun c62 => ?_) (fun c62 => ?_)
        · rw [if_neg c62] at h
          refine lv_iconst (v := 0) hx hb dX6_perform_129 (by decide) ?_
          exact w_X6_perform_130 C N _ ih I A J v1 v2 v3 v4 v5 v6 v8 v9 v10 v11 v12 (A 21 (v5 + v12).toNatClampNeg) 0 h _ _ w _ (lv_sub hl [1, 2, 3, 4, 5, 6, 7, 9, 10, 11, 12, 13, 0] rfl)
        · rw [if_pos c62] at h
          refine lv_iload hx hb dX6_perform_120 (lv_at hl 0 rfl) ?_
          refine lv_if_ge (tgt := 129) hx hb dX6_perform_122 (by decide) (fun c63 => ?_) (fun c63 => ?_)
          · rw [if_pos c63] at h
            refine lv_iconst (v := 0) hx hb dX6_perform_129 (by decide) ?_
            exact w_X6_perform_130 C N _ ih I A J v1 v2 v3 v4 v5 v6 v8 v9 v10 v11 v12 (A 21 (v5 + v12).toNatClampNeg) 0 h _ _ w _ (lv_sub hl [1, 2, 3, 4, 5, 6, 7, 9, 10, 11, 12, 13, 0] rfl)
          · rw [if_neg c63] at h
            refine lv_iconst (v := 1) hx hb dX6_perform_125 (by decide) ?_
            refine lv_goto (tgt := 130) hx hb dX6_perform_126 (by decide) ?_
            exact w_X6_perform_130 C N _ ih I A J v1 v2 v3 v4 v5 v6 v8 v9 v10 v11 v12 (A 21 (v5 + v12).toNatClampNeg) 1 h _ _ w _ (lv_sub hl [1, 2, 3, 4, 5, 6, 7, 9, 10, 11, 12, 13, 0] rfl)
set_option maxHeartbeats 4000000 in
set_option maxRecDepth 100000 in
theorem c_X6_perform (l : Launch) (G : GG) (ad : Nat → Nat) (sz : Nat) (N : Nat) (I : Nat → Int32) (A : Nat → Nat → Int32) (J : Nat → Nat → Int64) (a1 : Int32) (a2 : Int32) (a3 : Int32) (r : Int32) (I' : Nat → Int32) (A' : Nat → Nat → Int32) (J' : Nat → Nat → Int64) (h : f_X6_perform N I A J a1 a2 a3 = some (r, I', A', J')) : CtI l yX6_perform cX6_perform 14 (some .int) { frames := 4, cells := 0, slots := 0, locals := 93 } G [.ref (ad 0), .int a1, .int a2, .int a3] (w_X6 G ad I A J) (w_X6 G ad I' A' J') sz r := by
  refine ct_of (by decide) (Nat.le_of_ble_eq_true rfl) (fun p e s m below meth c ls C w hsz hl => ?_)
  have hx := C.1
  have hb := C.2.1
  have hl : lv_has ls 14 [(0, .ref (ad 0)), (1, .int a1), (2, .int a2), (3, .int a3)] := hl
  unfold f_X6_perform at h
  refine lv_aload_n hx hb dX6_perform_0 rfl (lv_at hl 0 rfl) ?_
  refine lv_iload_n hx hb dX6_perform_1 rfl (lv_at hl 1 rfl) ?_
  refine lv_iload_n hx hb dX6_perform_2 rfl (lv_at hl 2 rfl) ?_
  obtain ⟨x64, hx64, h⟩ := bdS h
  have w0 := w.z
  refine cl_i (wc' := (w_X6 G ad I A J)) w0 (run_V (As := [.int a1, .int a2]) (rest := []) C w0 (c_X6_isTask l G ad  _ I A J a1 a2 x64 hx64) mt_X6_isTask tt_758 6 rfl rfl rfl rfl ⟨Nat.le_of_ble_eq_true rfl, Nat.le_of_ble_eq_true rfl⟩ hl.1 (Nat.le_of_ble_eq_true rfl) dX6_perform_3 ⟨Nat.le_of_ble_eq_true rfl, Nat.le_of_ble_eq_true rfl⟩) (fun H locs w => ?_)
  have w := w.uz
  refine lv_if_eq (tgt := 16) hx hb dX6_perform_6 (by decide) (fun c65 => ?_) (fun c65 => ?_)
  · rw [if_pos c65] at h
    refine lv_bipush (v := (-2)) hx hb dX6_perform_16 (by decide) ?_
    cases h
    exact ret_I C w rfl rfl dX6_perform_18
  · rw [if_neg c65] at h
    refine lv_iload_n hx hb dX6_perform_9 rfl (lv_at hl 3 rfl) ?_
    obtain ⟨x66, hx66, h⟩ := bdS h
    have w0 : WD G _ ([] ++ ([] ++ (w_X6 G ad I A J))) s _ _ := w
    refine cl_i (wc' := []) w0 (run_S (As := [.int a3]) (rest := []) C w0 (c_X6_isUser l G  _ a3 x66 hx66) mt_X6_isUser tt_638 rfl rfl ⟨Nat.le_of_ble_eq_true rfl, Nat.le_of_ble_eq_true rfl⟩ hl.1 (Nat.le_of_ble_eq_true rfl) dX6_perform_10 ⟨Nat.le_of_ble_eq_true rfl, Nat.le_of_ble_eq_true rfl⟩) (fun H locs w => ?_)
    have w : WD G _ (w_X6 G ad I A J) s H locs := w
    refine lv_if_ne (tgt := 19) hx hb dX6_perform_13 (by decide) (fun c67 => ?_) (fun c67 => ?_)
    · rw [if_neg c67] at h
      refine lv_aload_n hx hb dX6_perform_19 rfl (lv_at hl 0 rfl) ?_
      refine r_get C w 0 6 20 (.ref (ad 16)) ge_X6_0 rfl inX6 (by decide) tt_564 rfl dX6_perform_20 ?_
      refine lv_iload_n hx hb dX6_perform_23 rfl (lv_at hl 2 rfl) ?_
      obtain ⟨hin68, h⟩ := gdS h
      refine r_iald C w 16 (A 20 a2.toNatClampNeg) ge_X6_16 rfl hin68 dX6_perform_24 ?_
      refine lv_istore (lv' := [(4, .int (A 20 a2.toNatClampNeg)), (0, .ref (ad 0)), (1, .int a1), (2, .int a2), (3, .int a3)]) hx hb dX6_perform_25 hl (by decide) rfl (fun ls hl => ?_)
      refine lv_bipush (v := (6)) hx hb dX6_perform_27 (by decide) ?_
      refine lv_iload_n hx hb dX6_perform_29 rfl (lv_at hl 3 rfl) ?_
      refine lv_imul hx hb dX6_perform_30 ?_
      refine lv_istore (lv' := [(5, .int (6 * a2)), (4, .int (A 20 a2.toNatClampNeg)), (0, .ref (ad 0)), (1, .int a1), (2, .int a2), (3, .int a3)]) hx hb dX6_perform_31 hl (by decide) rfl (fun ls hl => ?_)
      refine lv_aload_n hx hb dX6_perform_33 rfl (lv_at hl 2 rfl) ?_
      refine r_get C w 0 6 13 (.ref (ad 10)) ge_X6_0 rfl inX6 (by decide) tt_557 rfl dX6_perform_34 ?_
      refine lv_iload hx hb dX6_perform_37 (lv_at hl 1 rfl) ?_
      obtain ⟨hin69, h⟩ := gdS h
      refine r_iald C w 10 (A 13 (A 20 a2.toNatClampNeg).toNatClampNeg) ge_X6_10 rfl hin69 dX6_perform_39 ?_
      refine lv_istore (lv' := [(6, .int (A 13 (A 20 a2.toNatClampNeg).toNatClampNeg)), (5, .int (6 * a2)), (4, .int (A 20 a2.toNatClampNeg)), (0, .ref (ad 0)), (1, .int a1), (2, .int a2), (3, .int a3)]) hx hb dX6_perform_40 hl (by decide) rfl (fun ls hl => ?_)
      refine lv_aload_n hx hb dX6_perform_42 rfl (lv_at hl 3 rfl) ?_
      refine r_get C w 0 6 21 (.ref (ad 17)) ge_X6_0 rfl inX6 (by decide) tt_565 rfl dX6_perform_43 ?_
      refine lv_iload hx hb dX6_perform_46 (lv_at hl 1 rfl) ?_
      refine lv_iload_n hx hb dX6_perform_48 rfl (lv_at hl 4 rfl) ?_
      refine lv_iadd hx hb dX6_perform_49 ?_
      obtain ⟨hin70, h⟩ := gdS h
      refine r_iald C w 17 (A 21 ((6 * a2) + a1).toNatClampNeg) ge_X6_17 rfl hin70 dX6_perform_50 ?_
      refine lv_if_lt (tgt := 57) hx hb dX6_perform_51 (by decide) (fun c71 => ?_) (fun c71 => ?_)
      · rw [if_pos c71] at h
        refine lv_iconst (v := 0) hx hb dX6_perform_57 (by decide) ?_
        refine lv_istore (lv' := [(7, .int 0), (6, .int (A 13 (A 20 a2.toNatClampNeg).toNatClampNeg)), (5, .int (6 * a2)), (4, .int (A 20 a2.toNatClampNeg)), (0, .ref (ad 0)), (1, .int a1), (2, .int a2), (3, .int a3)]) hx hb dX6_perform_58 hl (by decide) rfl (fun ls hl => ?_)
        refine lv_iconst (v := 0) hx hb dX6_perform_60 (by decide) ?_
        refine lv_istore (lv' := [(8, .int 0), (7, .int 0), (6, .int (A 13 (A 20 a2.toNatClampNeg).toNatClampNeg)), (5, .int (6 * a2)), (4, .int (A 20 a2.toNatClampNeg)), (0, .ref (ad 0)), (1, .int a1), (2, .int a2), (3, .int a3)]) hx hb dX6_perform_61 hl (by decide) rfl (fun ls hl => ?_)
        refine lv_iconst (v := 0) hx hb dX6_perform_63 (by decide) ?_
        refine lv_istore (lv' := [(9, .int 0), (8, .int 0), (7, .int 0), (6, .int (A 13 (A 20 a2.toNatClampNeg).toNatClampNeg)), (5, .int (6 * a2)), (4, .int (A 20 a2.toNatClampNeg)), (0, .ref (ad 0)), (1, .int a1), (2, .int a2), (3, .int a3)]) hx hb dX6_perform_64 hl (by decide) rfl (fun ls hl => ?_)
        refine lv_iconst (v := 0) hx hb dX6_perform_66 (by decide) ?_
        refine lv_istore (lv' := [(10, .int 0), (9, .int 0), (8, .int 0), (7, .int 0), (6, .int (A 13 (A 20 a2.toNatClampNeg).toNatClampNeg)), (5, .int (6 * a2)), (4, .int (A 20 a2.toNatClampNeg)), (0, .ref (ad 0)), (1, .int a1), (2, .int a2), (3, .int a3)]) hx hb dX6_perform_67 hl (by decide) rfl (fun ls hl => ?_)
        refine lv_iconst (v := 0) hx hb dX6_perform_69 (by decide) ?_
        refine lv_istore (lv' := [(11, .int 0), (10, .int 0), (9, .int 0), (8, .int 0), (7, .int 0), (6, .int (A 13 (A 20 a2.toNatClampNeg).toNatClampNeg)), (5, .int (6 * a2)), (4, .int (A 20 a2.toNatClampNeg)), (0, .ref (ad 0)), (1, .int a1), (2, .int a2), (3, .int a3)]) hx hb dX6_perform_70 hl (by decide) rfl (fun ls hl => ?_)
        refine lv_iconst (v := 0) hx hb dX6_perform_72 (by decide) ?_
        refine lv_istore (lv' := [(12, .int 0), (11, .int 0), (10, .int 0), (9, .int 0), (8, .int 0), (7, .int 0), (6, .int (A 13 (A 20 a2.toNatClampNeg).toNatClampNeg)), (5, .int (6 * a2)), (4, .int (A 20 a2.toNatClampNeg)), (0, .ref (ad 0)), (1, .int a1), (2, .int a2), (3, .int a3)]) hx hb dX6_perform_73 hl (by decide) rfl (fun ls hl => ?_)
        exact w_X6_perform_75 C N N I A J a1 a2 a3 (A 20 a2.toNatClampNeg) (6 * a2) (A 13 (A 20 a2.toNatClampNeg).toNatClampNeg) 0 0 0 0 0 0 h _ _ w _ (lv_sub hl [9, 10, 11, 12, 8, 7, 6, 5, 4, 3, 2, 1, 0] rfl)
      · rw [if_neg c71] at h
        refine lv_bipush (v := (-16)) hx hb dX6_perform_54 (by decide) ?_
        cases h
        exact ret_I C w rfl rfl dX6_perform_56
    · rw [if_pos c67] at h
      refine lv_bipush (v := (-2)) hx hb dX6_perform_16 (by decide) ?_
      cases h
      exact ret_I C w rfl rfl dX6_perform_18
