set_option maxHeartbeats 4000000 in
set_option maxRecDepth 100000 in
theorem c_X5_hasBit (l : Launch) (G : GG) (sz : Nat) (a1 : Int32) (a2 : Int32) (r : Int32) (h : f_X5_hasBit a1 a2 = some r) : CtI l yX5_hasBit cX5_hasBit 2 (some .boolean) { frames := 0, cells := 0, slots := 0, locals := 0 } G [.int a1, .int a2] [] [] sz r := by
  refine ct_of (by decide) (Nat.le_of_ble_eq_true rfl) (fun p e s m below meth c ls C w hsz hl => ?_)
  have hx := C.1
  have hb := C.2.1
  have hl : lv_has ls 2 [(0, .int a1), (1, .int a2)] := hl
  unfold f_X5_hasBit at h
  refine lv_iload_n hx hb dX5_hasBit_0 rfl (lv_at hl 0 rfl) ?_
  refine lv_iload_n hx hb dX5_hasBit_1 rfl (lv_at hl 1 rfl) ?_
  refine lv_iushr (v := uSh a1 a2) hx hb dX5_hasBit_2 rfl ?_
  refine lv_iconst (v := 1) hx hb dX5_hasBit_3 (by decide) ?_
  refine lv_iand hx hb dX5_hasBit_4 ?_
  refine lv_if_eq (tgt := 12) hx hb dX5_hasBit_5 (by decide) (fun c1 => ?_) (fun c1 => ?_)
  · rw [if_pos c1] at h
    refine lv_iconst (v := 0) hx hb dX5_hasBit_12 (by decide) ?_
    cases h
    exact ret_Z C w (Or.inl rfl) rfl rfl dX5_hasBit_13
  · rw [if_neg c1] at h
    refine lv_iconst (v := 1) hx hb dX5_hasBit_8 (by decide) ?_
    refine lv_goto (tgt := 13) hx hb dX5_hasBit_9 (by decide) ?_
    cases h
    exact ret_Z C w (Or.inr rfl) rfl rfl dX5_hasBit_13
set_option maxHeartbeats 4000000 in
set_option maxRecDepth 100000 in
theorem c_J6_bitCount_0f7a4 (l : Launch) (G : GG) (sz : Nat) (a1 : Int32) (r : Int32) (h : f_J6_bitCount_0f7a4 a1 = some r) : CtI l yJ6_bitCount_0f7a4 cJ6_bitCount_0f7a4 1 (some .int) { frames := 0, cells := 0, slots := 0, locals := 0 } G [.int a1] [] [] sz r := by
  refine ct_of (by decide) (Nat.le_of_ble_eq_true rfl) (fun p e s m below meth c ls C w hsz hl => ?_)
  have hx := C.1
  have hb := C.2.1
  have hl : lv_has ls 1 [(0, .int a1)] := hl
  unfold f_J6_bitCount_0f7a4 at h
  refine lv_iload_n hx hb dJ6_bitCount_0f7a4_0 rfl (lv_at hl 0 rfl) ?_
  refine lv_iload_n hx hb dJ6_bitCount_0f7a4_1 rfl (lv_at hl 0 rfl) ?_
  refine lv_iconst (v := 1) hx hb dJ6_bitCount_0f7a4_2 (by decide) ?_
  refine lv_iushr (v := uSh a1 1) hx hb dJ6_bitCount_0f7a4_3 rfl ?_
  refine lv_ldcw hx hb C.2.2.2.2.1 (C.ts tt_453) dJ6_bitCount_0f7a4_4 ?_
  refine lv_iand hx hb dJ6_bitCount_0f7a4_7 ?_
  refine lv_isub hx hb dJ6_bitCount_0f7a4_8 ?_
  refine lv_istore_n (lv' := [(0, .int (a1 - ((uSh a1 1) &&& 1431655765)))]) hx hb dJ6_bitCount_0f7a4_9 rfl hl (by decide) rfl (fun ls hl => ?_)
  refine lv_iload_n hx hb dJ6_bitCount_0f7a4_10 rfl (lv_at hl 0 rfl) ?_
  refine lv_ldcw hx hb C.2.2.2.2.1 (C.ts tt_454) dJ6_bitCount_0f7a4_11 ?_
  refine lv_iand hx hb dJ6_bitCount_0f7a4_14 ?_
  refine lv_iload_n hx hb dJ6_bitCount_0f7a4_15 rfl (lv_at hl 0 rfl) ?_
  refine lv_iconst (v := 2) hx hb dJ6_bitCount_0f7a4_16 (by decide) ?_
  refine lv_iushr (v := uSh (a1 - ((uSh a1 1) &&& 1431655765)) 2) hx hb dJ6_bitCount_0f7a4_17 rfl ?_
  refine lv_ldcw hx hb C.2.2.2.2.1 (C.ts tt_454) dJ6_bitCount_0f7a4_18 ?_
  refine lv_iand hx hb dJ6_bitCount_0f7a4_21 ?_
  refine lv_iadd hx hb dJ6_bitCount_0f7a4_22 ?_
  refine lv_istore_n (lv' := [(0, .int (((a1 - ((uSh a1 1) &&& 1431655765)) &&& 858993459) + ((uSh (a1 - ((uSh a1 1) &&& 1431655765)) 2) &&& 858993459)))]) hx hb dJ6_bitCount_0f7a4_23 rfl hl (by decide) rfl (fun ls hl => ?_)
  refine lv_iload_n hx hb dJ6_bitCount_0f7a4_24 rfl (lv_at hl 0 rfl) ?_
  refine lv_iload_n hx hb dJ6_bitCount_0f7a4_25 rfl (lv_at hl 0 rfl) ?_
  refine lv_iconst (v := 4) hx hb dJ6_bitCount_0f7a4_26 (by decide) ?_
  refine lv_iushr (v := uSh (((a1 - ((uSh a1 1) &&& 1431655765)) &&& 858993459) + ((uSh (a1 - ((uSh a1 1) &&& 1431655765)) 2) &&& 858993459)) 4) hx hb dJ6_bitCount_0f7a4_27 rfl ?_
  refine lv_iadd hx hb dJ6_bitCount_0f7a4_28 ?_
  refine lv_ldcw hx hb C.2.2.2.2.1 (C.ts tt_455) dJ6_bitCount_0f7a4_29 ?_
  refine lv_iand hx hb dJ6_bitCount_0f7a4_32 ?_
  refine lv_istore_n (lv' := [(0, .int (((((a1 - ((uSh a1 1) &&& 1431655765)) &&& 858993459) + ((uSh (a1 - ((uSh a1 1) &&& 1431655765)) 2) &&& 858993459)) + (uSh (((a1 - ((uSh a1 1) &&& 1431655765)) &&& 858993459) + ((uSh (a1 - ((uSh a1 1) &&& 1431655765)) 2) &&& 858993459)) 4)) &&& 252645135))]) hx hb dJ6_bitCount_0f7a4_33 rfl hl (by decide) rfl (fun ls hl => ?_)
  refine lv_iload_n hx hb dJ6_bitCount_0f7a4_34 rfl (lv_at hl 0 rfl) ?_
  refine lv_iload_n hx hb dJ6_bitCount_0f7a4_35 rfl (lv_at hl 0 rfl) ?_
  refine lv_bipush (v := (8)) hx hb dJ6_bitCount_0f7a4_36 (by decide) ?_
  refine lv_iushr (v := uSh (((((a1 - ((uSh a1 1) &&& 1431655765)) &&& 858993459) + ((uSh (a1 - ((uSh a1 1) &&& 1431655765)) 2) &&& 858993459)) + (uSh (((a1 - ((uSh a1 1) &&& 1431655765)) &&& 858993459) + ((uSh (a1 - ((uSh a1 1) &&& 1431655765)) 2) &&& 858993459)) 4)) &&& 252645135) 8) hx hb dJ6_bitCount_0f7a4_38 rfl ?_
  refine lv_iadd hx hb dJ6_bitCount_0f7a4_39 ?_
  refine lv_istore_n (lv' := [(0, .int ((((((a1 - ((uSh a1 1) &&& 1431655765)) &&& 858993459) + ((uSh (a1 - ((uSh a1 1) &&& 1431655765)) 2) &&& 858993459)) + (uSh (((a1 - ((uSh a1 1) &&& 1431655765)) &&& 858993459) + ((uSh (a1 - ((uSh a1 1) &&& 1431655765)) 2) &&& 858993459)) 4)) &&& 252645135) + (uSh (((((a1 - ((uSh a1 1) &&& 1431655765)) &&& 858993459) + ((uSh (a1 - ((uSh a1 1) &&& 1431655765)) 2) &&& 858993459)) + (uSh (((a1 - ((uSh a1 1) &&& 1431655765)) &&& 858993459) + ((uSh (a1 - ((uSh a1 1) &&& 1431655765)) 2) &&& 858993459)) 4)) &&& 252645135) 8)))]) hx hb dJ6_bitCount_0f7a4_40 rfl hl (by decide) rfl (fun ls hl => ?_)
  refine lv_iload_n hx hb dJ6_bitCount_0f7a4_41 rfl (lv_at hl 0 rfl) ?_
  refine lv_iload_n hx hb dJ6_bitCount_0f7a4_42 rfl (lv_at hl 0 rfl) ?_
  refine lv_bipush (v := (16)) hx hb dJ6_bitCount_0f7a4_43 (by decide) ?_
  refine lv_iushr (v := uSh ((((((a1 - ((uSh a1 1) &&& 1431655765)) &&& 858993459) + ((uSh (a1 - ((uSh a1 1) &&& 1431655765)) 2) &&& 858993459)) + (uSh (((a1 - ((uSh a1 1) &&& 1431655765)) &&& 858993459) + ((uSh (a1 - ((uSh a1 1) &&& 1431655765)) 2) &&& 858993459)) 4)) &&& 252645135) + (uSh (((((a1 - ((uSh a1 1) &&& 1431655765)) &&& 858993459) + ((uSh (a1 - ((uSh a1 1) &&& 1431655765)) 2) &&& 858993459)) + (uSh (((a1 - ((uSh a1 1) &&& 1431655765)) &&& 858993459) + ((uSh (a1 - ((uSh a1 1) &&& 1431655765)) 2) &&& 858993459)) 4)) &&& 252645135) 8)) 16) hx hb dJ6_bitCount_0f7a4_45 rfl ?_
  refine lv_iadd hx hb dJ6_bitCount_0f7a4_46 ?_
  refine lv_istore_n (lv' := [(0, .int (((((((a1 - ((uSh a1 1) &&& 1431655765)) &&& 858993459) + ((uSh (a1 - ((uSh a1 1) &&& 1431655765)) 2) &&& 858993459)) + (uSh (((a1 - ((uSh a1 1) &&& 1431655765)) &&& 858993459) + ((uSh (a1 - ((uSh a1 1) &&& 1431655765)) 2) &&& 858993459)) 4)) &&& 252645135) + (uSh (((((a1 - ((uSh a1 1) &&& 1431655765)) &&& 858993459) + ((uSh (a1 - ((uSh a1 1) &&& 1431655765)) 2) &&& 858993459)) + (uSh (((a1 - ((uSh a1 1) &&& 1431655765)) &&& 858993459) + ((uSh (a1 - ((uSh a1 1) &&& 1431655765)) 2) &&& 858993459)) 4)) &&& 252645135) 8)) + (uSh ((((((a1 - ((uSh a1 1) &&& 1431655765)) &&& 858993459) + ((uSh (a1 - ((uSh a1 1) &&& 1431655765)) 2) &&& 858993459)) + (uSh (((a1 - ((uSh a1 1) &&& 1431655765)) &&& 858993459) + ((uSh (a1 - ((uSh a1 1) &&& 1431655765)) 2) &&& 858993459)) 4)) &&& 252645135) + (uSh (((((a1 - ((uSh a1 1) &&& 1431655765)) &&& 858993459) + ((uSh (a1 - ((uSh a1 1) &&& 1431655765)) 2) &&& 858993459)) + (uSh (((a1 - ((uSh a1 1) &&& 1431655765)) &&& 858993459) + ((uSh (a1 - ((uSh a1 1) &&& 1431655765)) 2) &&& 858993459)) 4)) &&& 252645135) 8)) 16)))]) hx hb dJ6_bitCount_0f7a4_47 rfl hl (by decide) rfl (fun ls hl => ?_)
  refine lv_iload_n hx hb dJ6_bitCount_0f7a4_48 rfl (lv_at hl 0 rfl) ?_
  refine lv_bipush (v := (63)) hx hb dJ6_bitCount_0f7a4_49 (by decide) ?_
  refine lv_iand hx hb dJ6_bitCount_0f7a4_51 ?_
  cases h
  exact ret_I C w rfl rfl dJ6_bitCount_0f7a4_52
set_option maxHeartbeats 4000000 in
set_option maxRecDepth 100000 in
theorem c_X5_isBelow (l : Launch) (G : GG) (sz : Nat) (a1 : Int32) (a2 : Int32) (r : Int32) (h : f_X5_isBelow a1 a2 = some r) : CtI l yX5_isBelow cX5_isBelow 2 (some .boolean) { frames := 0, cells := 0, slots := 0, locals := 0 } G [.int a1, .int a2] [] [] sz r := by
  refine ct_of (by decide) (Nat.le_of_ble_eq_true rfl) (fun p e s m below meth c ls C w hsz hl => ?_)
  have hx := C.1
  have hb := C.2.1
  have hl : lv_has ls 2 [(0, .int a1), (1, .int a2)] := hl
  unfold f_X5_isBelow at h
  refine lv_iload_n hx hb dX5_isBelow_0 rfl (lv_at hl 0 rfl) ?_
  refine lv_if_lt (tgt := 13) hx hb dX5_isBelow_1 (by decide) (fun c1 => ?_) (fun c1 => ?_)
  · rw [if_pos c1] at h
    refine lv_iconst (v := 0) hx hb dX5_isBelow_13 (by decide) ?_
    cases h
    exact ret_Z C w (Or.inl rfl) rfl rfl dX5_isBelow_14
  · rw [if_neg c1] at h
    refine lv_iload_n hx hb dX5_isBelow_4 rfl (lv_at hl 0 rfl) ?_
    refine lv_iload_n hx hb dX5_isBelow_5 rfl (lv_at hl 1 rfl) ?_
    refine lv_icmp_ge (tgt := 13) hx hb dX5_isBelow_6 (by decide) (fun c2 => ?_) (fun c2 => ?_)
    · rw [if_pos c2] at h
      refine lv_iconst (v := 0) hx hb dX5_isBelow_13 (by decide) ?_
      cases h
      exact ret_Z C w (Or.inl rfl) rfl rfl dX5_isBelow_14
    · rw [if_neg c2] at h
      refine lv_iconst (v := 1) hx hb dX5_isBelow_9 (by decide) ?_
      refine lv_goto (tgt := 14) hx hb dX5_isBelow_10 (by decide) ?_
      cases h
      exact ret_Z C w (Or.inr rfl) rfl rfl dX5_isBelow_14
set_option maxHeartbeats 4000000 in
set_option maxRecDepth 100000 in
theorem c_X5_isUser (l : Launch) (G : GG) (sz : Nat) (a1 : Int32) (r : Int32) (h : f_X5_isUser a1 = some r) : CtI l yX5_isUser cX5_isUser 1 (some .boolean) { frames := 1, cells := 0, slots := 0, locals := 21 } G [.int a1] [] [] sz r := by
  refine ct_of (by decide) (Nat.le_of_ble_eq_true rfl) (fun p e s m below meth c ls C w hsz hl => ?_)
  have hx := C.1
  have hb := C.2.1
  have hl : lv_has ls 1 [(0, .int a1)] := hl
  unfold f_X5_isUser at h
  refine lv_iload_n hx hb dX5_isUser_0 rfl (lv_at hl 0 rfl) ?_
  refine lv_bipush (v := (12)) hx hb dX5_isUser_1 (by decide) ?_
  obtain ⟨x2, hx2, h⟩ := bdS h
  have w0 : WD G _ ([] ++ ([] ++ [])) s _ _ := w
  refine cl_i (wc' := []) w0 (run_S (As := [.int a1, .int 12]) (rest := []) C w0 (c_X5_isBelow l G  _ a1 12 x2 hx2) mt_X5_isBelow tt_196 rfl rfl ⟨Nat.le_of_ble_eq_true rfl, Nat.le_of_ble_eq_true rfl⟩ hl.1 (Nat.le_of_ble_eq_true rfl) dX5_isUser_3 ⟨Nat.le_of_ble_eq_true rfl, Nat.le_of_ble_eq_true rfl⟩) (fun H locs w => ?_)
  have w : WD G _ [] s H locs := w
  obtain ⟨hbz, h⟩ := gpS h
  cases h
  exact ret_Z C w hbz rfl rfl dX5_isUser_6
set_option maxHeartbeats 4000000 in
set_option maxRecDepth 100000 in
theorem c_X5_asNumber (l : Launch) (G : GG) (sz : Nat) (a1 : Int32) (r : Int32) (h : f_X5_asNumber a1 = some r) : CtI l yX5_asNumber cX5_asNumber 1 (some .int) { frames := 0, cells := 0, slots := 0, locals := 0 } G [.int a1] [] [] sz r := by
  refine ct_of (by decide) (Nat.le_of_ble_eq_true rfl) (fun p e s m below meth c ls C w hsz hl => ?_)
  have hx := C.1
  have hb := C.2.1
  have hl : lv_has ls 1 [(0, .int a1)] := hl
  unfold f_X5_asNumber at h
  refine lv_iload_n hx hb dX5_asNumber_0 rfl (lv_at hl 0 rfl) ?_
  refine lv_if_eq (tgt := 8) hx hb dX5_asNumber_1 (by decide) (fun c1 => ?_) (fun c1 => ?_)
  · rw [if_pos c1] at h
    refine lv_iconst (v := 0) hx hb dX5_asNumber_8 (by decide) ?_
    cases h
    exact ret_I C w rfl rfl dX5_asNumber_9
  · rw [if_neg c1] at h
    refine lv_iconst (v := 1) hx hb dX5_asNumber_4 (by decide) ?_
    refine lv_goto (tgt := 9) hx hb dX5_asNumber_5 (by decide) ?_
    cases h
    exact ret_I C w rfl rfl dX5_asNumber_9
set_option maxHeartbeats 4000000 in
set_option maxRecDepth 100000 in
theorem w_X5_joinPair_15 {p : Program} {l : Launch} {e : Env} {s : State} {m : MethodId} {args : Array Value} {below : List Frame} {meth : Method} {c : Code} {FA : Nat → Prop} {G : GG} {ad : Nat → Nat} {r : Int32} {F' : Nat → Int32}  (C : CX p m meth c s args yX5_joinPair cX5_joinPair 4 (some .int)) : ∀ (F : Nat → Int32) (v1 : Int32) (v2 : Int32) (s0 : Int32), f_X5_joinPair_15 F v1 v2 s0 = some (r, F') → ∀ (H : Heap) (locs : List Loc), WD G FA (w_XP G ad F) s H locs → ∀ ls : Array Slot, lv_has ls 4 [(0, .ref (ad 0)), (1, .int v1), (2, .int v2)] → W p l e { frames := 1, cells := 0, slots := 0, locals := 21 } s m args below meth c H locs 0 0 (EnI below G FA args s (w_XP G ad F') r) (F0 m 15 ls [.int s0]) := by
  have hx := C.1
  have hb := C.2.1
  intro F v1 v2 s0 h H locs w ls hl
  unfold f_X5_joinPair_15 at h
  refine lv_istore_n (lv' := [(3, .int s0), (0, .ref (ad 0)), (1, .int v1), (2, .int v2)]) hx hb dX5_joinPair_15 rfl hl (by decide) rfl (fun ls hl => ?_)
  refine lv_aload_n hx hb dX5_joinPair_16 rfl (lv_at hl 1 rfl) ?_
  refine lv_iload_n hx hb dX5_joinPair_17 rfl (lv_at hl 2 rfl) ?_
  refine lv_dup2_11 hx hb dX5_joinPair_18 rfl rfl ?_
  obtain ⟨hin8, h⟩ := gdS h
  refine r_iald C w 0 (F v1.toNatClampNeg) ge_XP_0 rfl hin8 dX5_joinPair_19 ?_
  refine lv_iconst (v := 1) hx hb dX5_joinPair_20 (by decide) ?_
  refine lv_iload_n hx hb dX5_joinPair_21 rfl (lv_at hl 3 rfl) ?_
  refine lv_ishl hx hb dX5_joinPair_22 ?_
  refine lv_ior hx hb dX5_joinPair_23 ?_
  obtain ⟨hin9, h⟩ := gdS h
  refine r_iast C w 0 (w_XP G ad (upd F v1.toNatClampNeg ((F v1.toNatClampNeg) ||| ((1 : Int32) <<< (v2 &&& 31))))) ge_XP_0 hin9 st_XP_0 dX5_joinPair_24 (fun H locs w => ?_)
  refine lv_aload_n hx hb dX5_joinPair_25 rfl (lv_at hl 1 rfl) ?_
  refine lv_iload_n hx hb dX5_joinPair_26 rfl (lv_at hl 3 rfl) ?_
  refine lv_dup2_11 hx hb dX5_joinPair_27 rfl rfl ?_
  obtain ⟨hin10, h⟩ := gdS h
  refine r_iald C w 0 ((upd F v1.toNatClampNeg ((F v1.toNatClampNeg) ||| ((1 : Int32) <<< (v2 &&& 31)))) v2.toNatClampNeg) ge_XP_0 rfl hin10 dX5_joinPair_28 ?_
  refine lv_iconst (v := 1) hx hb dX5_joinPair_29 (by decide) ?_
  refine lv_iload_n hx hb dX5_joinPair_30 rfl (lv_at hl 2 rfl) ?_
  refine lv_ishl hx hb dX5_joinPair_31 ?_
  refine lv_ior hx hb dX5_joinPair_32 ?_
  obtain ⟨hin11, h⟩ := gdS h
  refine r_iast C w 0 (w_XP G ad (upd (upd F v1.toNatClampNeg ((F v1.toNatClampNeg) ||| ((1 : Int32) <<< (v2 &&& 31)))) v2.toNatClampNeg (((upd F v1.toNatClampNeg ((F v1.toNatClampNeg) ||| ((1 : Int32) <<< (v2 &&& 31)))) v2.toNatClampNeg) ||| ((1 : Int32) <<< (v1 &&& 31))))) ge_XP_0 hin11 st_XP_0 dX5_joinPair_33 (fun H locs w => ?_)
  refine lv_iload_n hx hb dX5_joinPair_34 rfl (lv_at hl 0 rfl) ?_
  obtain ⟨x12, hx12, h⟩ := bdS h
  have w0 : WD G _ ([] ++ ([] ++ (w_XP G ad (upd (upd F v1.toNatClampNeg ((F v1.toNatClampNeg) ||| ((1 : Int32) <<< (v2 &&& 31)))) v2.toNatClampNeg (((upd F v1.toNatClampNeg ((F v1.toNatClampNeg) ||| ((1 : Int32) <<< (v2 &&& 31)))) v2.toNatClampNeg) ||| ((1 : Int32) <<< (v1 &&& 31))))))) s _ _ := w
  refine cl_i (wc' := []) w0 (run_S (As := [.int s0]) (rest := []) C w0 (c_X5_asNumber l G  _ s0 x12 hx12) mt_X5_asNumber tt_267 rfl rfl ⟨Nat.le_of_ble_eq_true rfl, Nat.le_of_ble_eq_true rfl⟩ hl.1 (Nat.le_of_ble_eq_true rfl) dX5_joinPair_35 ⟨Nat.le_of_ble_eq_true rfl, Nat.le_of_ble_eq_true rfl⟩) (fun H locs w => ?_)
  have w : WD G _ (w_XP G ad (upd (upd F v1.toNatClampNeg ((F v1.toNatClampNeg) ||| ((1 : Int32) <<< (v2 &&& 31)))) v2.toNatClampNeg (((upd F v1.toNatClampNeg ((F v1.toNatClampNeg) ||| ((1 : Int32) <<< (v2 &&& 31)))) v2.toNatClampNeg) ||| ((1 : Int32) <<< (v1 &&& 31))))) s H locs := w
  cases h
  exact ret_I C w rfl rfl dX5_joinPair_38
set_option maxHeartbeats 4000000 in
set_option maxRecDepth 100000 in
theorem c_X5_joinPair (l : Launch) (G : GG) (ad : Nat → Nat) (sz : Nat) (F : Nat → Int32) (a1 : Int32) (a2 : Int32) (r : Int32) (F' : Nat → Int32) (h : f_X5_joinPair F a1 a2 = some (r, F')) : CtI l yX5_joinPair cX5_joinPair 4 (some .int) { frames := 1, cells := 0, slots := 0, locals := 21 } G [.ref (ad 0), .int a1, .int a2] (w_XP G ad F) (w_XP G ad F') sz r := by
  refine ct_of (by decide) (Nat.le_of_ble_eq_true rfl) (fun p e s m below meth c ls C w hsz hl => ?_)
  have hx := C.1
  have hb := C.2.1
  have hl : lv_has ls 4 [(0, .ref (ad 0)), (1, .int a1), (2, .int a2)] := hl
  unfold f_X5_joinPair at h
  refine lv_aload_n hx hb dX5_joinPair_0 rfl (lv_at hl 0 rfl) ?_
  refine lv_iload_n hx hb dX5_joinPair_1 rfl (lv_at hl 1 rfl) ?_
  obtain ⟨hin13, h⟩ := gdS h
  refine r_iald C w 0 (F a1.toNatClampNeg) ge_XP_0 rfl hin13 dX5_joinPair_2 ?_
  refine lv_iload_n hx hb dX5_joinPair_3 rfl (lv_at hl 2 rfl) ?_
  obtain ⟨x14, hx14, h⟩ := bdS h
  have w0 : WD G _ ([] ++ ([] ++ (w_XP G ad F))) s _ _ := w
  refine cl_i (wc' := []) w0 (run_S (As := [.int (F a1.toNatClampNeg), .int a2]) (rest := []) C w0 (c_X5_hasBit l G  _ (F a1.toNatClampNeg) a2 x14 hx14) mt_X5_hasBit tt_319 rfl rfl ⟨Nat.le_of_ble_eq_true rfl, Nat.le_of_ble_eq_true rfl⟩ hl.1 (Nat.le_of_ble_eq_true rfl) dX5_joinPair_4 ⟨Nat.le_of_ble_eq_true rfl, Nat.le_of_ble_eq_true rfl⟩) (fun H locs w => ?_)
  have w : WD G _ (w_XP G ad F) s H locs := w
  refine lv_if_ne (tgt := 14) hx hb dX5_joinPair_7 (by decide) (fun c15 => ?_) (fun c15 => ?_)
  · rw [if_neg c15] at h
    refine lv_iconst (v := 0) hx hb dX5_joinPair_14 (by decide) ?_
    exact w_X5_joinPair_15 C F a1 a2 0 h _ _ w _ (lv_sub hl [0, 1, 2] rfl)
  · rw [if_pos c15] at h
    refine lv_iconst (v := 1) hx hb dX5_joinPair_10 (by decide) ?_
    refine lv_goto (tgt := 15) hx hb dX5_joinPair_11 (by decide) ?_
    exact w_X5_joinPair_15 C F a1 a2 1 h _ _ w _ (lv_sub hl [0, 1, 2] rfl)
set_option maxHeartbeats 4000000 in
set_option maxRecDepth 100000 in
theorem c_X6_isIn (l : Launch) (G : GG) (sz : Nat) (a1 : Int32) (a2 : Int32) (a3 : Int32) (r : Int32) (h : f_X6_isIn a1 a2 a3 = some r) : CtI l yX6_isIn cX6_isIn 3 (some .boolean) { frames := 0, cells := 0, slots := 0, locals := 0 } G [.int a1, .int a2, .int a3] [] [] sz r := by
  refine ct_of (by decide) (Nat.le_of_ble_eq_true rfl) (fun p e s m below meth c ls C w hsz hl => ?_)
  have hx := C.1
  have hb := C.2.1
  have hl : lv_has ls 3 [(0, .int a1), (1, .int a2), (2, .int a3)] := hl
  unfold f_X6_isIn at h
  refine lv_iload_n hx hb dX6_isIn_0 rfl (lv_at hl 0 rfl) ?_
  refine lv_iload_n hx hb dX6_isIn_1 rfl (lv_at hl 1 rfl) ?_
  refine lv_icmp_lt (tgt := 14) hx hb dX6_isIn_2 (by decide) (fun c1 => ?_) (fun c1 => ?_)
  · rw [if_pos c1] at h
    refine lv_iconst (v := 0) hx hb dX6_isIn_14 (by decide) ?_
    cases h
    exact ret_Z C w (Or.inl rfl) rfl rfl dX6_isIn_15
  · rw [if_neg c1] at h
    refine lv_iload_n hx hb dX6_isIn_5 rfl (lv_at hl 0 rfl) ?_
    refine lv_iload_n hx hb dX6_isIn_6 rfl (lv_at hl 2 rfl) ?_
    refine lv_icmp_gt (tgt := 14) hx hb dX6_isIn_7 (by decide) (fun c2 => ?_) (fun c2 => ?_)
    · rw [if_pos c2] at h
      refine lv_iconst (v := 0) hx hb dX6_isIn_14 (by decide) ?_
      cases h
      exact ret_Z C w (Or.inl rfl) rfl rfl dX6_isIn_15
    · rw [if_neg c2] at h
      refine lv_iconst (v := 1) hx hb dX6_isIn_10 (by decide) ?_
      refine lv_goto (tgt := 15) hx hb dX6_isIn_11 (by decide) ?_
      cases h
      exact ret_Z C w (Or.inr rfl) rfl rfl dX6_isIn_15
set_option maxHeartbeats 4000000 in
set_option maxRecDepth 100000 in
theorem c_X6_isUser (l : Launch) (G : GG) (sz : Nat) (a1 : Int32) (r : Int32) (h : f_X6_isUser a1 = some r) : CtI l yX6_isUser cX6_isUser 1 (some .boolean) { frames := 1, cells := 0, slots := 0, locals := 22 } G [.int a1] [] [] sz r := by
  refine ct_of (by decide) (Nat.le_of_ble_eq_true rfl) (fun p e s m below meth c ls C w hsz hl => ?_)
  have hx := C.1
  have hb := C.2.1
  have hl : lv_has ls 1 [(0, .int a1)] := hl
  unfold f_X6_isUser at h
  refine lv_iload_n hx hb dX6_isUser_0 rfl (lv_at hl 0 rfl) ?_
  refine lv_iconst (v := 0) hx hb dX6_isUser_1 (by decide) ?_
  refine lv_bipush (v := (11)) hx hb dX6_isUser_2 (by decide) ?_
  obtain ⟨x2, hx2, h⟩ := bdS h
  have w0 : WD G _ ([] ++ ([] ++ [])) s _ _ := w
  refine cl_i (wc' := []) w0 (run_S (As := [.int a1, .int 0, .int 11]) (rest := []) C w0 (c_X6_isIn l G  _ a1 0 11 x2 hx2) mt_X6_isIn tt_630 rfl rfl ⟨Nat.le_of_ble_eq_true rfl, Nat.le_of_ble_eq_true rfl⟩ hl.1 (Nat.le_of_ble_eq_true rfl) dX6_isUser_4 ⟨Nat.le_of_ble_eq_true rfl, Nat.le_of_ble_eq_true rfl⟩) (fun H locs w => ?_)
  have w : WD G _ [] s H locs := w
  obtain ⟨hbz, h⟩ := gpS h
  cases h
  exact ret_Z C w hbz rfl rfl dX6_isUser_7
set_option maxHeartbeats 4000000 in
set_option maxRecDepth 100000 in
theorem w_X6_linkOf_13 {p : Program} {l : Launch} {e : Env} {s : State} {m : MethodId} {args : Array Value} {below : List Frame} {meth : Method} {c : Code} {FA : Nat → Prop} {G : GG}  {r : Int64}  (C : CX p m meth c s args yX6_linkOf cX6_linkOf 10 (some .long)) (N : Nat) : ∀ n : Nat, ∀ (v3 : Int32) (v4 : Int32) (v5 : Int32) (v6 : Int32) (v7 : Int64) (v9 : Int32), f_X6_linkOf_13 N n v3 v4 v5 v6 v7 v9 = some r → ∀ (H : Heap) (locs : List Loc), WD G FA [] s H locs → ∀ ls : Array Slot, lv_has ls 10 [(3, .int v3), (4, .int v4), (5, .int v5), (6, .int v6), (7, .long v7), (9, .int v9)] → W p l e { frames := 0, cells := 0, slots := 0, locals := 0 } s m args below meth c H locs 0 0 (EnL below G FA args s [] r) (F0 m 13 ls []) := by
  have hx := C.1
  have hb := C.2.1
  intro n
  induction n with
  | zero =>
    intro v3 v4 v5 v6 v7 v9 h
    cases h
  | succ n ih =>
    intro v3 v4 v5 v6 v7 v9 h H locs w ls hl
    rw [f_X6_linkOf_13] at h
    refine lv_iload hx hb dX6_linkOf_13 (lv_at hl 5 rfl) ?_
    refine lv_iconst (v := 3) hx hb dX6_linkOf_15 (by decide) ?_
    refine lv_icmp_ge (tgt := 67) hx hb dX6_linkOf_16 (by decide) (fun c1 => ?_) (fun c1 => ?_)
    · rw [if_pos c1] at h
      refine lv_lload hx hb dX6_linkOf_67 (lv_at hl 4 rfl) ?_
      refine lv_lload hx hb dX6_linkOf_69 (lv_at hl 4 rfl) ?_
      refine lv_bipush (v := (32)) hx hb dX6_linkOf_71 (by decide) ?_
      refine lv_lushr (v := uShL v7 32) hx hb dX6_linkOf_73 rfl ?_
      refine lv_lxor hx hb dX6_linkOf_74 ?_
      refine lv_lstore (lv' := [(7, .long (v7 ^^^ (uShL v7 32))), (3, .int v3), (4, .int v4), (5, .int v5), (6, .int v6), (9, .int v9)]) hx hb dX6_linkOf_75 hl (by decide) rfl (fun ls hl => ?_)
      refine lv_lload hx hb dX6_linkOf_77 (lv_at hl 0 rfl) ?_
      refine lv_ldc2 hx hb C.2.2.2.2.1 (C.ts tt_682) dX6_linkOf_79 ?_
      refine lv_lmul hx hb dX6_linkOf_82 ?_
      refine lv_iload hx hb dX6_linkOf_83 (lv_at hl 4 rfl) ?_
      refine lv_i2l (v := i2L v6) hx hb dX6_linkOf_85 rfl ?_
      refine lv_ladd hx hb dX6_linkOf_86 ?_
      refine lv_lstore (lv' := [(7, .long (((v7 ^^^ (uShL v7 32)) * (-7723592293110705685)) + (i2L v6))), (3, .int v3), (4, .int v4), (5, .int v5), (6, .int v6), (9, .int v9)]) hx hb dX6_linkOf_87 hl (by decide) rfl (fun ls hl => ?_)
      refine lv_lload hx hb dX6_linkOf_89 (lv_at hl 0 rfl) ?_
      refine lv_lload hx hb dX6_linkOf_91 (lv_at hl 0 rfl) ?_
      refine lv_bipush (v := (31)) hx hb dX6_linkOf_93 (by decide) ?_
      refine lv_lushr (v := uShL (((v7 ^^^ (uShL v7 32)) * (-7723592293110705685)) + (i2L v6)) 31) hx hb dX6_linkOf_95 rfl ?_
      refine lv_lxor hx hb dX6_linkOf_96 ?_
      cases h
      exact ret_L C w rfl rfl dX6_linkOf_97
    · rw [if_neg c1] at h
      refine lv_lload hx hb dX6_linkOf_19 (lv_at hl 4 rfl) ?_
      refine lv_lload hx hb dX6_linkOf_21 (lv_at hl 4 rfl) ?_
      refine lv_bipush (v := (29)) hx hb dX6_linkOf_23 (by decide) ?_
      refine lv_lushr (v := uShL v7 29) hx hb dX6_linkOf_25 rfl ?_
      refine lv_lxor hx hb dX6_linkOf_26 ?_
      refine lv_lstore (lv' := [(7, .long (v7 ^^^ (uShL v7 29))), (3, .int v3), (4, .int v4), (5, .int v5), (6, .int v6), (9, .int v9)]) hx hb dX6_linkOf_27 hl (by decide) rfl (fun ls hl => ?_)
      refine lv_lload hx hb dX6_linkOf_29 (lv_at hl 0 rfl) ?_
      refine lv_ldc2 hx hb C.2.2.2.2.1 (C.ts tt_681) dX6_linkOf_31 ?_
      refine lv_lmul hx hb dX6_linkOf_34 ?_
      refine lv_iload hx hb dX6_linkOf_35 (lv_at hl 5 rfl) ?_
      refine lv_if_ne (tgt := 44) hx hb dX6_linkOf_37 (by decide) (fun c2 => ?_) (fun c2 => ?_)
      · rw [if_neg c2] at h
        refine lv_iload hx hb dX6_linkOf_44 (lv_at hl 5 rfl) ?_
        refine lv_iconst (v := 1) hx hb dX6_linkOf_46 (by decide) ?_
        refine lv_icmp_ne (tgt := 55) hx hb dX6_linkOf_47 (by decide) (fun c3 => ?_) (fun c3 => ?_)
        · rw [if_neg c3] at h
          refine lv_iload hx hb dX6_linkOf_55 (lv_at hl 3 rfl) ?_
          refine lv_i2l (v := i2L v5) hx hb dX6_linkOf_57 rfl ?_
          refine lv_ladd hx hb dX6_linkOf_58 ?_
          refine lv_lstore (lv' := [(7, .long (((v7 ^^^ (uShL v7 29)) * (-4658895280553007687)) + (i2L v5))), (3, .int v3), (4, .int v4), (5, .int v5), (6, .int v6), (9, .int v9)]) hx hb dX6_linkOf_59 hl (by decide) rfl (fun ls hl => ?_)
          refine lv_iinc (v := v9 + 1) (lv' := [(9, .int (v9 + 1)), (7, .long (((v7 ^^^ (uShL v7 29)) * (-4658895280553007687)) + (i2L v5))), (3, .int v3), (4, .int v4), (5, .int v5), (6, .int v6)]) hx hb dX6_linkOf_61 hl (k := 5) rfl rfl (by decide) rfl (fun ls hl => ?_)
          refine lv_goto (tgt := 13) hx hb dX6_linkOf_64 (by decide) ?_
          exact ih v3 v4 v5 v6 (((v7 ^^^ (uShL v7 29)) * (-4658895280553007687)) + (i2L v5)) (v9 + 1) h _ _ w _ (lv_sub hl [2, 3, 4, 5, 1, 0] rfl)
        · rw [if_pos c3] at h
          refine lv_iload hx hb dX6_linkOf_50 (lv_at hl 2 rfl) ?_
          refine lv_goto (tgt := 57) hx hb dX6_linkOf_52 (by decide) ?_
          refine lv_i2l (v := i2L v4) hx hb dX6_linkOf_57 rfl ?_
          refine lv_ladd hx hb dX6_linkOf_58 ?_
          refine lv_lstore (lv' := [(7, .long (((v7 ^^^ (uShL v7 29)) * (-4658895280553007687)) + (i2L v4))), (3, .int v3), (4, .int v4), (5, .int v5), (6, .int v6), (9, .int v9)]) hx hb dX6_linkOf_59 hl (by decide) rfl (fun ls hl => ?_)
          refine lv_iinc (v := v9 + 1) (lv' := [(9, .int (v9 + 1)), (7, .long (((v7 ^^^ (uShL v7 29)) * (-4658895280553007687)) + (i2L v4))), (3, .int v3), (4, .int v4), (5, .int v5), (6, .int v6)]) hx hb dX6_linkOf_61 hl (k := 5) rfl rfl (by decide) rfl (fun ls hl => ?_)
          refine lv_goto (tgt := 13) hx hb dX6_linkOf_64 (by decide) ?_
          exact ih v3 v4 v5 v6 (((v7 ^^^ (uShL v7 29)) * (-4658895280553007687)) + (i2L v4)) (v9 + 1) h _ _ w _ (lv_sub hl [2, 3, 4, 5, 1, 0] rfl)
      · rw [if_pos c2] at h
        refine lv_iload_n hx hb dX6_linkOf_40 rfl (lv_at hl 1 rfl) ?_
        refine lv_goto (tgt := 57) hx hb dX6_linkOf_41 (by decide) ?_
        refine lv_i2l (v := i2L v3) hx hb dX6_linkOf_57 rfl ?_
        refine lv_ladd hx hb dX6_linkOf_58 ?_
        refine lv_lstore (lv' := [(7, .long (((v7 ^^^ (uShL v7 29)) * (-4658895280553007687)) + (i2L v3))), (3, .int v3), (4, .int v4), (5, .int v5), (6, .int v6), (9, .int v9)]) hx hb dX6_linkOf_59 hl (by decide) rfl (fun ls hl => ?_)
        refine lv_iinc (v := v9 + 1) (lv' := [(9, .int (v9 + 1)), (7, .long (((v7 ^^^ (uShL v7 29)) * (-4658895280553007687)) + (i2L v3))), (3, .int v3), (4, .int v4), (5, .int v5), (6, .int v6)]) hx hb dX6_linkOf_61 hl (k := 5) rfl rfl (by decide) rfl (fun ls hl => ?_)
        refine lv_goto (tgt := 13) hx hb dX6_linkOf_64 (by decide) ?_
        exact ih v3 v4 v5 v6 (((v7 ^^^ (uShL v7 29)) * (-4658895280553007687)) + (i2L v3)) (v9 + 1) h _ _ w _ (lv_sub hl [2, 3, 4, 5, 1, 0] rfl)
set_option maxHeartbeats 4000000 in
set_option maxRecDepth 100000 in
theorem c_X6_linkOf (l : Launch) (G : GG) (sz : Nat) (N : Nat) (a1 : Int64) (a2 : Int32) (a3 : Int32) (a4 : Int32) (a5 : Int32) (a6 : Int32) (r : Int64) (h : f_X6_linkOf N a1 a2 a3 a4 a5 a6 = some r) : CtL l yX6_linkOf cX6_linkOf 10 (some .long) { frames := 0, cells := 0, slots := 0, locals := 0 } G [.long a1, .int a2, .int a3, .int a4, .int a5, .int a6] [] [] sz r := by
  refine ct_of (by decide) (Nat.le_of_ble_eq_true rfl) (fun p e s m below meth c ls C w hsz hl => ?_)
  have hx := C.1
  have hb := C.2.1
  have hl : lv_has ls 10 [(0, .long a1), (2, .int a2), (3, .int a3), (4, .int a4), (5, .int a5), (6, .int a6)] := hl
  unfold f_X6_linkOf at h
  refine lv_lload_n hx hb dX6_linkOf_0 rfl (lv_at hl 0 rfl) ?_
  refine lv_ldc2 hx hb C.2.2.2.2.1 (C.ts tt_680) dX6_linkOf_1 ?_
  refine lv_lmul hx hb dX6_linkOf_4 ?_
  refine lv_iload_n hx hb dX6_linkOf_5 rfl (lv_at hl 1 rfl) ?_
  refine lv_i2l (v := i2L a2) hx hb dX6_linkOf_6 rfl ?_
  refine lv_ladd hx hb dX6_linkOf_7 ?_
  refine lv_lstore (lv' := [(7, .long ((a1 * (-7046029254386353131)) + (i2L a2))), (0, .long a1), (2, .int a2), (3, .int a3), (4, .int a4), (5, .int a5), (6, .int a6)]) hx hb dX6_linkOf_8 hl (by decide) rfl (fun ls hl => ?_)
  refine lv_iconst (v := 0) hx hb dX6_linkOf_10 (by decide) ?_
  refine lv_istore (lv' := [(9, .int 0), (7, .long ((a1 * (-7046029254386353131)) + (i2L a2))), (0, .long a1), (2, .int a2), (3, .int a3), (4, .int a4), (5, .int a5), (6, .int a6)]) hx hb dX6_linkOf_11 hl (by decide) rfl (fun ls hl => ?_)
  exact w_X6_linkOf_13 C N N a3 a4 a5 a6 ((a1 * (-7046029254386353131)) + (i2L a2)) 0 h _ _ w _ (lv_sub hl [4, 5, 6, 7, 1, 0] rfl)
set_option maxHeartbeats 4000000 in
set_option maxRecDepth 100000 in
theorem c_X6_pair (l : Launch) (G : GG) (sz : Nat) (a1 : Int32) (a2 : Int32) (a3 : Int32) (r : Int32) (h : f_X6_pair a1 a2 a3 = some r) : CtI l yX6_pair cX6_pair 3 (some .int) { frames := 1, cells := 0, slots := 0, locals := 21 } G [.int a1, .int a2, .int a3] [] [] sz r := by
  refine ct_of (by decide) (Nat.le_of_ble_eq_true rfl) (fun p e s m below meth c ls C w hsz hl => ?_)
  have hx := C.1
  have hb := C.2.1
  have hl : lv_has ls 3 [(0, .int a1), (1, .int a2), (2, .int a3)] := hl
  unfold f_X6_pair at h
  refine lv_bipush (v := (36)) hx hb dX6_pair_0 (by decide) ?_
  refine lv_iload_n hx hb dX6_pair_2 rfl (lv_at hl 0 rfl) ?_
  refine lv_imul hx hb dX6_pair_3 ?_
  refine lv_bipush (v := (6)) hx hb dX6_pair_4 (by decide) ?_
  refine lv_iload_n hx hb dX6_pair_6 rfl (lv_at hl 1 rfl) ?_
  refine lv_iload_n hx hb dX6_pair_7 rfl (lv_at hl 2 rfl) ?_
  refine va_mmin hx hb (C.2.2.2.1.trans hl.1.symm) C.2.2.2.2.1 (C.ts tt_727) (C.ts tt_728) (C.ts tt_58) (C.ts tt_729) (Nat.le_of_ble_eq_true rfl) (Nat.le_of_ble_eq_true rfl) (Nat.le_of_ble_eq_true rfl) (Nat.le_of_ble_eq_true rfl) dX6_pair_8 ?_
  refine W.eq (g2 := F0 m 11 ls [.int (iMin a2 a3), .int 6, .int (36 * a1)]) rfl ?_
  refine lv_imul hx hb dX6_pair_11 ?_
  refine lv_iadd hx hb dX6_pair_12 ?_
  refine lv_iload_n hx hb dX6_pair_13 rfl (lv_at hl 1 rfl) ?_
  refine lv_iload_n hx hb dX6_pair_14 rfl (lv_at hl 2 rfl) ?_
  refine va_mmax hx hb (C.2.2.2.1.trans hl.1.symm) C.2.2.2.2.1 (C.ts tt_703) (C.ts tt_322) (C.ts tt_58) (C.ts tt_323) (Nat.le_of_ble_eq_true rfl) (Nat.le_of_ble_eq_true rfl) (Nat.le_of_ble_eq_true rfl) (Nat.le_of_ble_eq_true rfl) dX6_pair_15 ?_
  refine W.eq (g2 := F0 m 18 ls [.int (iMax a2 a3), .int ((36 * a1) + (6 * (iMin a2 a3)))]) rfl ?_
  refine lv_iadd hx hb dX6_pair_18 ?_
  cases h
  exact ret_I C w rfl rfl dX6_pair_19
