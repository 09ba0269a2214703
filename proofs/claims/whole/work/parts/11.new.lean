/-! kind(), open(), WallDesk() -/
section NEW
variable {p : Program} {l : Launch} {e : Env} {R0 : Room} {s : State} {m : MethodId} {args : Array Value} {below : List Frame} {meth : Method} {c : Code} {H : Heap} {locs : List Loc} {cells slots : Nat} {Q : State → Prop}
variable {cc : ByteArray} {pc : Nat} {ls : Array Slot} {rest : List Value} {A : Nat → Prop} {a : Nat} {ws : va_W} {y : MethodName} {nL : Nat} {ret : Option FieldType} {G : GG}
theorem ret_E (C : CX p m meth c s args y cc nL (some .int)) (w : WD G A ws s H locs) {v r : Int32} {B : State → Prop} (hv : v = r) (hB : ∀ t : State, QB G ws A t → B t) (hdg : decode cc pc = .ok (.ireturn, 1)) : W p l e R0 s m args below meth c H locs cells slots (MQ below (va_Qi (fun x (_ : Unit) => x = r) (fun _ t => B t) A) args s cells slots A) (F0 m pc ls [.int v]) := by
  subst hv
  have hlk := C.2.2.2.2.2.1
  exact W.iret (free := A) C.1 C.2.1 C.2.2.1 (fun t ht hW => ⟨⟨v, (), rfl, rfl, hB t ⟨by rw [ht]; exact w.1, va_K.moved hW.alike w.2.2.2.1, w.2.1⟩⟩, w.2.2.1.F ht⟩) w.2.2.1.2.2 hdg
theorem cl_e {pre wc post : va_W} {ι : Type} {f : ι → va_W} {φ : ι → Prop} {r : Int32} {st0 : List Value} {av : Array Value} {mc ms : Nat} (w : WD G A (pre ++ (wc ++ post)) s H locs) (hr : va_Run p l e R0 s m args below meth c H locs cells slots mc ms (F0 m pc ls st0) rest (va_Qi (fun x (_ : Unit) => x = r) (fun _ t => ∃ i : ι, φ i ∧ QB G (f i) (va_A wc H.size) t) (va_A wc H.size) av) (va_A wc H.size))
    (kk : ∀ (i : ι) (H1 : Heap) (locs1 : List Loc), φ i → WD G A (pre ++ (f i ++ post)) s H1 locs1 → W p l e R0 s m args below meth c H1 locs1 (cells + mc) (slots + ms) Q (F0 m (pc + 3) ls (.int r :: rest))) : W p l e R0 s m args below meth c H locs cells slots Q (F0 m pc ls st0) := by
  have hF := seg_A w.2.1 w.2.2.1 w.2.2.2.2.1
  refine va_calli hr w.2.2.1 (fun q _ h => hF q h) hF (fun x u t H1 locs1 ht hvm hx hB hz hk hS => ?_)
  subst hx
  obtain ⟨i, hi, hB⟩ := hB
  exact kk i H1 locs1 hi (w.seg ht hB hk hS)
end NEW
/-- an int comes back, cells are made; the world is then f i for some i -/
abbrev CtE {ι : Type} (l : Launch) (y : MethodName) (cc : ByteArray) (nL : Nat) (rm : Room) (G : GG) (av : List Value) (ws : va_W) (f : ι → va_W) (φ : ι → Prop) (sz : Nat) (r : Int32) : Prop := Met l y (WS y cc nL (some .int)) rm (va_Pc av (PB G ws sz)) (va_Qi (fun x (_ : Unit) => x = r) (fun _ t => ∃ i : ι, φ i ∧ QB G (f i) (va_A ws sz) t) (va_A ws sz)) rm.cells rm.slots (va_A ws sz)
theorem pm_new {α : Type} {k X K C : List α} {a b : α} : (k ++ (X ++ (a :: b :: (K ++ C)))).Perm (X ++ (a :: b :: ((K ++ k) ++ C))) := by
  refine (List.perm_append_comm_assoc k X _).trans (List.Perm.append_left X ?_)
  refine (List.perm_append_comm_assoc k [a, b] (K ++ C)).trans (List.Perm.append_left [a, b] ?_)
  show (k ++ (K ++ C)).Perm ((K ++ k) ++ C)
  rw [List.append_assoc K k C]
  exact List.perm_append_comm_assoc k K C
theorem refs_new {n : Nat} {ad : Nat → Nat → Nat} {q : Nat → Nat} : va_up (refs n ad) n (some (q 0)) = refs (n + 1) (uN ad n q) := by
  funext j
  unfold va_up refs uN
  by_cases h : j = n
  · subst h; simp
  · by_cases h2 : j < n
    · simp [h, h2, Nat.lt_succ_of_lt h2]
    · have h3 : ¬ j < n + 1 := by omega
      simp [h, h2, h3]

set_option maxHeartbeats 4000000 in
set_option maxRecDepth 100000 in
theorem c_X5_kind_full (l : Launch) (G : GG) (ad : Nat → Nat) (kad cad : Nat → Nat → Nat) (I : Nat → Int32) (R : Nat → Int32) (WI : Nat → Int32) (WA : Nat → Nat → Int32) (GI : Nat → Int32) (GA : Nat → Nat → Int32) (LI : Nat → Int32) (LA : Nat → Nat → Int32) (LJ : Nat → Nat → Int64) (nK nC : Nat) (KI : Nat → Nat → Int32) (KA : Nat → Nat → Nat → Int32) (CK : Nat → Nat) (CD : Nat → Nat → Int32) (sz : Nat) (h : ¬ I 6 < 4) : CtE l yX5_kind cX5_kind 1 { frames := 2, cells := 5, slots := 31, locals := 32 } G [.ref (ad 0)] (w_PL G ad kad cad I R WI WA GI GA LI LA LJ nK nC KI KA CK CD) (fun (_ : Unit) => w_PL G ad kad cad I R WI WA GI GA LI LA LJ nK nC KI KA CK CD) (fun _ => True) sz (-3) := by
  refine ct_of (by decide) (Nat.le_of_ble_eq_true rfl) (fun p e s m below meth c ls C w hsz hl => ?_)
  have hx := C.1
  have hb := C.2.1
  have hl : lv_has ls 1 [(0, .ref (ad 0))] := hl
  refine lv_aload_n hx hb dX5_kind_0 rfl (lv_at hl 0 rfl) ?_
  refine r_get C w 0 5 6 (.int (I 6)) rfl rfl inX5 (by decide) tt_162 rfl dX5_kind_1 ?_
  refine lv_iconst (v := 4) hx hb dX5_kind_4 (by decide) ?_
  refine lv_icmp_lt (tgt := 11) hx hb dX5_kind_5 (by decide) (fun c1 => absurd c1 h) (fun c1 => ?_)
  refine lv_bipush (v := (-3)) hx hb dX5_kind_8 (by decide) ?_
  refine W.widen (k := 5) (n := 31) (by omega) (by omega) ?_
  exact ret_E C w rfl (fun t ht => ⟨(), trivial, ht⟩) dX5_kind_10
set_option maxHeartbeats 4000000 in
set_option maxRecDepth 100000 in
theorem c_X5_kind_new (l : Launch) (G : GG) (ad : Nat → Nat) (kad cad : Nat → Nat → Nat) (I : Nat → Int32) (R : Nat → Int32) (WI : Nat → Int32) (WA : Nat → Nat → Int32) (GI : Nat → Int32) (GA : Nat → Nat → Int32) (LI : Nat → Int32) (LA : Nat → Nat → Int32) (LJ : Nat → Nat → Int64) (nK nC : Nat) (KI : Nat → Nat → Int32) (KA : Nat → Nat → Nat → Int32) (CK : Nat → Nat) (CD : Nat → Nat → Int32) (sz : Nat) (hI : I 6 = nI nK) (hn : nK < 4) (hCK : ∀ j, j < nC → CK j < nK) : CtE l yX5_kind cX5_kind 1 { frames := 2, cells := 5, slots := 31, locals := 32 } G [.ref (ad 0)] (w_PL G ad kad cad I R WI WA GI GA LI LA LJ nK nC KI KA CK CD) (fun (kad' : Nat → Nat → Nat) => w_PL G ad kad' cad (upd I 6 (I 6 + 1)) R WI WA GI GA LI LA LJ (nK + 1) nC (uN KI nK (upd (fun _ => 0) 5 6)) (uN KA nK (fun _ _ => 0)) CK CD) (fun _ => True) sz ((upd I 6 (I 6 + 1)) 6 - 1) := by
  refine ct_of (by decide) (Nat.le_of_ble_eq_true rfl) (fun p e s m below meth c ls C w hsz hl => ?_)
  have hx := C.1
  have hb := C.2.1
  have hl : lv_has ls 1 [(0, .ref (ad 0))] := hl
  have h4 : I 6 < 4 := by rw [hI]; exact (nI_ltI (by omega) (by decide)).mpr hn
  refine lv_aload_n hx hb dX5_kind_0 rfl (lv_at hl 0 rfl) ?_
  refine r_get C w 0 5 6 (.int (I 6)) rfl rfl inX5 (by decide) tt_162 rfl dX5_kind_1 ?_
  refine lv_iconst (v := 4) hx hb dX5_kind_4 (by decide) ?_
  refine lv_icmp_lt (tgt := 11) hx hb dX5_kind_5 (by decide) (fun c1 => ?_) (fun c1 => absurd h4 c1)
  refine lv_aload_n hx hb dX5_kind_11 rfl (lv_at hl 0 rfl) ?_
  refine r_get C w 0 5 3 (.ref (ad 16)) rfl rfl inX5 (by decide) tt_159 rfl dX5_kind_12 ?_
  refine lv_aload_n hx hb dX5_kind_15 rfl (lv_at hl 0 rfl) ?_
  refine r_get C w 0 5 6 (.int (I 6)) rfl rfl inX5 (by decide) tt_162 rfl dX5_kind_16 ?_
  refine r_new C w 2 rfl inX2 tyX2_ok tt_132 tt_328 tt_59 (fs := [.null, .null, .null, .null, .int 0, .int 0, .int 0]) (fun j hj => by rcases (show j = 0 ∨ j = 1 ∨ j = 2 ∨ j = 3 ∨ j = 4 ∨ j = 5 ∨ j = 6 by omega) with rfl | rfl | rfl | rfl | rfl | rfl | rfl <;> rfl) (Nat.le_of_ble_eq_true rfl) (Nat.le_of_ble_eq_true rfl) dX5_kind_19 (fun q H w => ?_)
  refine lv_dup hx hb dX5_kind_22 rfl ?_
  have w0 : WD G _ (w_PL G ad kad cad I R WI WA GI GA LI LA LJ nK nC KI KA CK CD ++ ([(q, .inr (2, [.null, .null, .null, .null, .int 0, .int 0, .int 0]))] ++ [])) s H _ := w
  refine cl_m w0 (run_IN (As := []) (rest := [.ref q, .int (I 6), .ref (ad 16)]) C w0 (c_X2_init l G _ q) mt_X2_init nn_329 rfl rfl ⟨(Nat.le_of_ble_eq_true rfl), (Nat.le_of_ble_eq_true rfl)⟩ hl.1 (Nat.le_of_ble_eq_true rfl) dX5_kind_23 ⟨(Nat.le_of_ble_eq_true rfl), (Nat.le_of_ble_eq_true rfl)⟩) (fun ad' H locs had w9 => ?_)
  clear w w0
  subst had
  rw [List.append_nil] at w9
  have w := w9.perm List.perm_append_comm
  have hin : vp_in (I 6) 4 := by rw [hI]; exact vp_in_nI hn (by decide)
  refine r_qast C w 21 3 0 2 (w_X2 G ad' (upd (fun _ => 0) 5 6) (fun _ _ => 0) ++ (w_X5 G ad I R WI WA GI GA LI LA LJ ++ (aK G ad (va_up (refs nK kad) (I 6).toNatClampNeg (some (ad' 0))) :: aC G ad (refs nC cad) :: ((List.range nK).flatMap (kCells G kad KI KA) ++ (List.range nC).flatMap (cCells G kad cad CK CD))))) rfl rfl rfl rfl hin rfl dX5_kind_26 (fun H locs w => ?_)
  refine lv_aload_n hx hb dX5_kind_27 rfl (lv_at hl 0 rfl) ?_
  refine lv_dup hx hb dX5_kind_28 rfl ?_
  refine r_get C w 5 5 6 (.int (I 6)) rfl rfl inX5 (by decide) tt_162 rfl dX5_kind_29 ?_
  refine lv_iconst (v := 1) hx hb dX5_kind_32 (by decide) ?_
  refine lv_iadd hx hb dX5_kind_33 ?_
  refine r_put C w 5 5 6 (w_X2 G ad' (upd (fun _ => 0) 5 6) (fun _ _ => 0) ++ (w_X5 G ad (upd I 6 (I 6 + 1)) R WI WA GI GA LI LA LJ ++ (aK G ad (va_up (refs nK kad) (I 6).toNatClampNeg (some (ad' 0))) :: aC G ad (refs nC cad) :: ((List.range nK).flatMap (kCells G kad KI KA) ++ (List.range nC).flatMap (cCells G kad cad CK CD))))) tyX5_ok nmX5 rfl rfl inX5 (by decide) tt_162 rfl rfl rfl (Nat.le_of_ble_eq_true rfl) rfl dX5_kind_34 (fun H locs w => ?_)
  refine lv_aload_n hx hb dX5_kind_37 rfl (lv_at hl 0 rfl) ?_
  refine r_get C w 5 5 6 (.int ((upd I 6 (I 6 + 1)) 6)) rfl rfl inX5 (by decide) tt_162 rfl dX5_kind_38 ?_
  refine lv_iconst (v := 1) hx hb dX5_kind_41 (by decide) ?_
  refine lv_isub hx hb dX5_kind_42 ?_
  refine ret_E C w rfl (fun t ht => ⟨uN kad nK ad', trivial, ?_⟩) dX5_kind_43
  have hcl : (I 6).toNatClampNeg = nK := by rw [hI]; exact nI_clamp (by omega)
  have e1 : va_up (refs nK kad) (I 6).toNatClampNeg (some (ad' 0)) = refs (nK + 1) (uN kad nK ad') := by rw [hcl]; exact refs_new
  have e2 : (List.range (nK + 1)).flatMap (kCells G (uN kad nK ad') (uN KI nK (upd (fun _ => 0) 5 6)) (uN KA nK (fun _ _ => 0))) = (List.range nK).flatMap (kCells G kad KI KA) ++ w_X2 G ad' (upd (fun _ => 0) 5 6) (fun _ _ => 0) := by
    rw [rng_succ, rng_ext (g := kCells G kad KI KA) (fun j hj => by simp [kCells, uN, Nat.ne_of_lt hj])]
    simp [kCells, uN]
  have e3 : (List.range nC).flatMap (cCells G (uN kad nK ad') cad CK CD) = (List.range nC).flatMap (cCells G kad cad CK CD) := rng_ext (fun j hj => by simp [cCells, uN, Nat.ne_of_lt (hCK j hj)])
  refine QB.perm ?_ ht
  unfold w_PL
  dsimp only
  rw [e2, e3, ← e1]
  exact pm_new
def oBad (nK : Nat) (KI : Nat → Nat → Int32) (I : Nat → Int32) (a : Int32) : Option Int32 := match kIx nK a with
  | none => some (-2)
  | some i => if KI i 4 = 0 then some (-2) else if I 7 < 16 then none else some (-3)
set_option maxHeartbeats 4000000 in
set_option maxRecDepth 100000 in
theorem c_X5_open_bad (l : Launch) (G : GG) (ad : Nat → Nat) (kad cad : Nat → Nat → Nat) (I : Nat → Int32) (R : Nat → Int32) (WI : Nat → Int32) (WA : Nat → Nat → Int32) (GI : Nat → Int32) (GA : Nat → Nat → Int32) (LI : Nat → Int32) (LA : Nat → Nat → Int32) (LJ : Nat → Nat → Int64) (nK nC : Nat) (KI : Nat → Nat → Int32) (KA : Nat → Nat → Nat → Int32) (CK : Nat → Nat) (CD : Nat → Nat → Int32) (sz : Nat) (a1 : Int32) (hI : I 6 = nI nK) (hn : nK ≤ 4) (r : Int32) (h : oBad nK KI I a1 = some r) : CtE l yX5_open cX5_open 3 { frames := 2, cells := 2, slots := 8, locals := 42 } G [.ref (ad 0), .int a1] (w_PL G ad kad cad I R WI WA GI GA LI LA LJ nK nC KI KA CK CD) (fun (_ : Unit) => w_PL G ad kad cad I R WI WA GI GA LI LA LJ nK nC KI KA CK CD) (fun _ => True) sz r := by
  refine ct_of (by decide) (Nat.le_of_ble_eq_true rfl) (fun p e s m below meth c ls C w hsz hl => ?_)
  have hx := C.1
  have hb := C.2.1
  have hl : lv_has ls 3 [(0, .ref (ad 0)), (1, .int a1)] := hl
  refine lv_aload_n hx hb dX5_open_0 rfl (lv_at hl 0 rfl) ?_
  refine lv_iload_n hx hb dX5_open_1 rfl (lv_at hl 1 rfl) ?_
  have w0 := w.z
  refine cl_q (wc' := (w_PL G ad kad cad I R WI WA GI GA LI LA LJ nK nC KI KA CK CD)) w0 (run_V (As := [.int a1]) (rest := []) C w0 (c_X5_kindAt l G ad kad cad I R WI WA GI GA LI LA LJ nK nC KI KA CK CD _ a1 hI hn) mt_X5_kindAt tt_373 5 rfl rfl rfl rfl ⟨(Nat.le_of_ble_eq_true rfl), (Nat.le_of_ble_eq_true rfl)⟩ hl.1 (Nat.le_of_ble_eq_true rfl) dX5_open_2 ⟨(Nat.le_of_ble_eq_true rfl), (Nat.le_of_ble_eq_true rfl)⟩) (fun H locs w => ?_)
  have w := w.uz
  unfold oBad at h
  cases hq : kIx nK a1 with
  | none =>
    simp only [hq] at h
    refine lv_astore_nN (lv' := [(2, .null), (0, .ref (ad 0)), (1, .int a1)]) hx hb dX5_open_5 rfl hl (by decide) rfl (fun ls hl => ?_)
    refine lv_aload_nN hx hb dX5_open_6 rfl (lv_at hl 0 rfl) ?_
    refine lv_ifnullN (tgt := 17) hx hb dX5_open_7 (by decide) ?_
    refine lv_bipush (v := (-2)) hx hb dX5_open_17 (by decide) ?_
    cases h
    refine W.widen (k := 2) (n := 8) (by omega) (by omega) ?_
    exact ret_E C w rfl (fun t ht => ⟨(), trivial, ht⟩) dX5_open_19
  | some i =>
    simp only [hq] at h
    obtain ⟨hi, -⟩ := kIx_lt (by omega) hq
    refine lv_astore_n (x := kad i 0) (lv' := [(2, .ref (kad i 0)), (0, .ref (ad 0)), (1, .int a1)]) hx hb dX5_open_5 rfl hl (by decide) rfl (fun ls hl => ?_)
    refine lv_aload_n hx hb dX5_open_6 rfl (lv_at hl 0 rfl) ?_
    refine lv_ifnull hx hb dX5_open_7 ?_
    refine lv_aload_n hx hb dX5_open_10 rfl (lv_at hl 0 rfl) ?_
    have wk := w.perm (permK G ad kad cad I R WI WA GI GA LI LA LJ nK nC KI KA CK CD hi)
    refine r_getN C wk 1 2 4 (.int (KI i 4)) ge_XK_1 rfl inX2 (by decide) nn_345 rfl dX5_open_11 ?_
    refine lv_if_ne (tgt := 20) hx hb dX5_open_14 (by decide) (fun c1 => ?_) (fun c1 => ?_)
    · rw [if_neg c1] at h
      refine lv_aload_n hx hb dX5_open_20 rfl (lv_at hl 1 rfl) ?_
      refine r_get C w 0 5 7 (.int (I 7)) rfl rfl inX5 (by decide) tt_163 rfl dX5_open_21 ?_
      refine lv_bipush (v := (16)) hx hb dX5_open_24 (by decide) ?_
      refine lv_icmp_lt (tgt := 32) hx hb dX5_open_26 (by decide) (fun c2 => ?_) (fun c2 => ?_)
      · rw [if_pos c2] at h
        cases h
      · rw [if_neg c2] at h
        refine lv_bipush (v := (-3)) hx hb dX5_open_29 (by decide) ?_
        cases h
        refine W.widen (k := 2) (n := 8) (by omega) (by omega) ?_
        exact ret_E C w rfl (fun t ht => ⟨(), trivial, ht⟩) dX5_open_31
    · rw [if_pos c1] at h
      refine lv_bipush (v := (-2)) hx hb dX5_open_17 (by decide) ?_
      cases h
      refine W.widen (k := 2) (n := 8) (by omega) (by omega) ?_
      exact ret_E C w rfl (fun t ht => ⟨(), trivial, ht⟩) dX5_open_19
set_option maxHeartbeats 4000000 in
set_option maxRecDepth 100000 in
theorem c_X5_open_new (l : Launch) (G : GG) (ad : Nat → Nat) (kad cad : Nat → Nat → Nat) (I : Nat → Int32) (R : Nat → Int32) (WI : Nat → Int32) (WA : Nat → Nat → Int32) (GI : Nat → Int32) (GA : Nat → Nat → Int32) (LI : Nat → Int32) (LA : Nat → Nat → Int32) (LJ : Nat → Nat → Int64) (nK nC : Nat) (KI : Nat → Nat → Int32) (KA : Nat → Nat → Nat → Int32) (CK : Nat → Nat) (CD : Nat → Nat → Int32) (sz : Nat) (a1 : Int32) (hI : I 6 = nI nK) (hn : nK ≤ 4) (hI7 : I 7 = nI nC) (hn7 : nC < 16) {i : Nat} (hq : kIx nK a1 = some i) (ht : ¬ KI i 4 = 0) : CtE l yX5_open cX5_open 3 { frames := 2, cells := 2, slots := 8, locals := 42 } G [.ref (ad 0), .int a1] (w_PL G ad kad cad I R WI WA GI GA LI LA LJ nK nC KI KA CK CD) (fun (cad' : Nat → Nat → Nat) => w_PL G ad kad cad' (upd I 7 (I 7 + 1)) R WI WA GI GA LI LA LJ nK (nC + 1) (uN KI i (upd (KI i) 6 1)) KA (uN CK nC i) (uN CD nC caseD0)) (fun _ => True) sz ((upd I 7 (I 7 + 1)) 7 - 1) := by
  refine ct_of (by decide) (Nat.le_of_ble_eq_true rfl) (fun p e s m below meth c ls C w hsz hl => ?_)
  have hx := C.1
  have hb := C.2.1
  have hl : lv_has ls 3 [(0, .ref (ad 0)), (1, .int a1)] := hl
  refine lv_aload_n hx hb dX5_open_0 rfl (lv_at hl 0 rfl) ?_
  refine lv_iload_n hx hb dX5_open_1 rfl (lv_at hl 1 rfl) ?_
  have w0 := w.z
  refine cl_q (wc' := (w_PL G ad kad cad I R WI WA GI GA LI LA LJ nK nC KI KA CK CD)) w0 (run_V (As := [.int a1]) (rest := []) C w0 (c_X5_kindAt l G ad kad cad I R WI WA GI GA LI LA LJ nK nC KI KA CK CD _ a1 hI hn) mt_X5_kindAt tt_373 5 rfl rfl rfl rfl ⟨(Nat.le_of_ble_eq_true rfl), (Nat.le_of_ble_eq_true rfl)⟩ hl.1 (Nat.le_of_ble_eq_true rfl) dX5_open_2 ⟨(Nat.le_of_ble_eq_true rfl), (Nat.le_of_ble_eq_true rfl)⟩) (fun H locs w => ?_)
  have w := w.uz
  obtain ⟨hi, -⟩ := kIx_lt (by omega) hq
  have h16 : I 7 < 16 := by rw [hI7]; exact (nI_ltI (by omega) (by decide)).mpr hn7
  rw [hq]
  refine lv_astore_n (x := kad i 0) (lv' := [(2, .ref (kad i 0)), (0, .ref (ad 0)), (1, .int a1)]) hx hb dX5_open_5 rfl hl (by decide) rfl (fun ls hl => ?_)
  refine lv_aload_n hx hb dX5_open_6 rfl (lv_at hl 0 rfl) ?_
  refine lv_ifnull hx hb dX5_open_7 ?_
  refine lv_aload_n hx hb dX5_open_10 rfl (lv_at hl 0 rfl) ?_
  have w := w.perm (permK G ad kad cad I R WI WA GI GA LI LA LJ nK nC KI KA CK CD hi)
  have w : WD G _ (w_XK G ad (kad i) I (KI i) (KA i) (aC G ad (refs nC cad) :: ((w_X5 G ad (fun _ => 0) R WI WA GI GA LI LA LJ).drop 1 ++ (aK G ad (refs nK kad) :: (((List.range nK).erase i).flatMap (kCells G kad KI KA) ++ (List.range nC).flatMap (cCells G kad cad CK CD)))))) s _ _ := w
  refine r_getN C w 1 2 4 (.int (KI i 4)) ge_XK_1 rfl inX2 (by decide) nn_345 rfl dX5_open_11 ?_
  refine lv_if_ne (tgt := 20) hx hb dX5_open_14 (by decide) (fun c1 => ?_) (fun c1 => absurd c1 ht)
  refine lv_aload_n hx hb dX5_open_20 rfl (lv_at hl 1 rfl) ?_
  refine r_get C w 0 5 7 (.int (I 7)) rfl rfl inX5 (by decide) tt_163 rfl dX5_open_21 ?_
  refine lv_bipush (v := (16)) hx hb dX5_open_24 (by decide) ?_
  refine lv_icmp_lt (tgt := 32) hx hb dX5_open_26 (by decide) (fun c2 => ?_) (fun c2 => absurd h16 c2)
  refine lv_aload_n hx hb dX5_open_32 rfl (lv_at hl 0 rfl) ?_
  refine lv_iconst (v := 1) hx hb dX5_open_33 (by decide) ?_
  refine r_putN C w 1 2 6 (w_XK G ad (kad i) I (upd (KI i) 6 1) (KA i) (aC G ad (refs nC cad) :: ((w_X5 G ad (fun _ => 0) R WI WA GI GA LI LA LJ).drop 1 ++ (aK G ad (refs nK kad) :: (((List.range nK).erase i).flatMap (kCells G kad KI KA) ++ (List.range nC).flatMap (cCells G kad cad CK CD)))))) tyX2_ok nmX2 ge_XK_1 rfl inX2 (by decide) nn_349 rfl rfl rfl (Nat.le_of_ble_eq_true rfl) rfl dX5_open_34 (fun H locs w => ?_)
  refine lv_aload_n hx hb dX5_open_37 rfl (lv_at hl 1 rfl) ?_
  refine r_get C w 0 5 4 (.ref (ad 17)) rfl rfl inX5 (by decide) tt_160 rfl dX5_open_38 ?_
  refine lv_aload_n hx hb dX5_open_41 rfl (lv_at hl 1 rfl) ?_
  refine r_get C w 0 5 7 (.int (I 7)) rfl rfl inX5 (by decide) tt_163 rfl dX5_open_42 ?_
  refine r_new C w 0 rfl inX0 tyX0_ok tt_134 tt_413 tt_60 (fs := [.null, .null]) (fun j hj => by rcases (show j = 0 ∨ j = 1 by omega) with rfl | rfl <;> rfl) (Nat.le_of_ble_eq_true rfl) (Nat.le_of_ble_eq_true rfl) dX5_open_45 (fun q H w => ?_)
  refine lv_dup hx hb dX5_open_48 rfl ?_
  refine lv_aload_n hx hb dX5_open_49 rfl (lv_at hl 0 rfl) ?_
  have w0 : WD G _ (w_XK G ad (kad i) I (upd (KI i) 6 1) (KA i) (aC G ad (refs nC cad) :: ((w_X5 G ad (fun _ => 0) R WI WA GI GA LI LA LJ).drop 1 ++ (aK G ad (refs nK kad) :: (((List.range nK).erase i).flatMap (kCells G kad KI KA) ++ (List.range nC).flatMap (cCells G kad cad CK CD))))) ++ ([(q, .inr (0, [.null, .null]))] ++ [])) s H _ := w
  refine cl_m w0 (run_IN (As := [.ref (kad i 0)]) (rest := [.ref q, .int (I 7), .ref (ad 17)]) C w0 (c_X0_init l G _ q (kad i 0)) mt_X0_init nn_414 rfl rfl ⟨(Nat.le_of_ble_eq_true rfl), (Nat.le_of_ble_eq_true rfl)⟩ hl.1 (Nat.le_of_ble_eq_true rfl) dX5_open_50 ⟨(Nat.le_of_ble_eq_true rfl), (Nat.le_of_ble_eq_true rfl)⟩) (fun ad' H locs had w9 => ?_)
  clear w w0
  subst had
  rw [List.append_nil] at w9
  have w := w9.perm List.perm_append_comm
  have hin : vp_in (I 7) 16 := by rw [hI7]; exact vp_in_nI hn7 (by decide)
  refine r_qast C w 8 4 0 0 ([(ad' 0, .inr (0, [.ref (kad i 0), .ref (ad' 1)])), (ad' 1, .inl (G.2 0, 6, .inl caseD0))] ++ w_XK G ad (kad i) I (upd (KI i) 6 1) (KA i) (aC G ad (va_up (refs nC cad) (I 7).toNatClampNeg (some (ad' 0))) :: ((w_X5 G ad (fun _ => 0) R WI WA GI GA LI LA LJ).drop 1 ++ (aK G ad (refs nK kad) :: (((List.range nK).erase i).flatMap (kCells G kad KI KA) ++ (List.range nC).flatMap (cCells G kad cad CK CD)))))) rfl rfl rfl rfl hin rfl dX5_open_53 (fun H locs w => ?_)
  refine lv_aload_n hx hb dX5_open_54 rfl (lv_at hl 1 rfl) ?_
  refine lv_dup hx hb dX5_open_55 rfl ?_
  refine r_get C w 2 5 7 (.int (I 7)) rfl rfl inX5 (by decide) tt_163 rfl dX5_open_56 ?_
  refine lv_iconst (v := 1) hx hb dX5_open_59 (by decide) ?_
  refine lv_iadd hx hb dX5_open_60 ?_
  refine r_put C w 2 5 7 ([(ad' 0, .inr (0, [.ref (kad i 0), .ref (ad' 1)])), (ad' 1, .inl (G.2 0, 6, .inl caseD0))] ++ w_XK G ad (kad i) (upd I 7 (I 7 + 1)) (upd (KI i) 6 1) (KA i) (aC G ad (va_up (refs nC cad) (I 7).toNatClampNeg (some (ad' 0))) :: ((w_X5 G ad (fun _ => 0) R WI WA GI GA LI LA LJ).drop 1 ++ (aK G ad (refs nK kad) :: (((List.range nK).erase i).flatMap (kCells G kad KI KA) ++ (List.range nC).flatMap (cCells G kad cad CK CD)))))) tyX5_ok nmX5 rfl rfl inX5 (by decide) tt_163 rfl rfl rfl (Nat.le_of_ble_eq_true rfl) rfl dX5_open_61 (fun H locs w => ?_)
  refine lv_aload_n hx hb dX5_open_64 rfl (lv_at hl 1 rfl) ?_
  refine r_get C w 2 5 7 (.int ((upd I 7 (I 7 + 1)) 7)) rfl rfl inX5 (by decide) tt_163 rfl dX5_open_65 ?_
  refine lv_iconst (v := 1) hx hb dX5_open_68 (by decide) ?_
  refine lv_isub hx hb dX5_open_69 ?_
  refine ret_E C w rfl (fun t ht => ⟨uN cad nC ad', trivial, ?_⟩) dX5_open_70
  have hcl : (I 7).toNatClampNeg = nC := by rw [hI7]; exact nI_clamp (by omega)
  have e1 : va_up (refs nC cad) (I 7).toNatClampNeg (some (ad' 0)) = refs (nC + 1) (uN cad nC ad') := by rw [hcl]; exact refs_new
  have e2 : (List.range (nC + 1)).flatMap (cCells G kad (uN cad nC ad') (uN CK nC i) (uN CD nC caseD0)) = (List.range nC).flatMap (cCells G kad cad CK CD) ++ [(ad' 0, .inr (0, [.ref (kad i 0), .ref (ad' 1)])), (ad' 1, .inl (G.2 0, 6, .inl caseD0))] := by
    rw [rng_succ, rng_ext (g := cCells G kad cad CK CD) (fun j hj => by simp [cCells, uN, Nat.ne_of_lt hj])]
    simp [cCells, uN]
  have e3 : ((List.range nK).erase i).flatMap (kCells G kad (uN KI i (upd (KI i) 6 1)) KA) = ((List.range nK).erase i).flatMap (kCells G kad KI KA) := rng_rest (fun j hj => by simp [kCells, uN, hj])
  refine QB.perm ?_ ht
  have h9 := permK G ad kad (uN cad nC ad') (upd I 7 (I 7 + 1)) R WI WA GI GA LI LA LJ nK (nC + 1) (uN KI i (upd (KI i) 6 1)) KA (uN CK nC i) (uN CD nC caseD0) hi
  rw [uN_s] at h9
  unfold tlK at h9
  rw [e2, e3, ← e1] at h9
  refine List.Perm.trans ?_ h9.symm
  have e4 : ∀ (d k0 k1 k2 k3 k4 x : Nat × va_E) (T K : va_W) (z : Nat × va_E) (Cs cn : va_W), (cn ++ (d :: k0 :: k1 :: k2 :: k3 :: k4 :: x :: (T ++ (z :: (K ++ Cs))))).Perm (d :: k0 :: k1 :: k2 :: k3 :: k4 :: x :: (T ++ (z :: (K ++ (Cs ++ cn))))) := by
    intro d k0 k1 k2 k3 k4 x T K z Cs cn
    have h5 : d :: k0 :: k1 :: k2 :: k3 :: k4 :: x :: (T ++ (z :: (K ++ (Cs ++ cn)))) = (d :: k0 :: k1 :: k2 :: k3 :: k4 :: x :: (T ++ (z :: (K ++ Cs)))) ++ cn := by simp
    rw [h5]
    exact List.perm_append_comm
  exact e4 _ _ _ _ _ _ _ _ _ _ _ _
def deskAd (h0 q5 q36 q45 : Nat) (a1 a2 a3 : Nat → Nat) : Nat → Nat := fun i => match i with
  | 0 => h0
  | 1 => q5
  | 2 => a1 0
  | 3 => a1 1
  | 4 => a1 2
  | 5 => a1 3
  | 6 => a1 4
  | 7 => a1 5
  | 8 => a2 0
  | 9 => a2 1
  | 10 => a2 2
  | 11 => a2 3
  | 12 => a2 4
  | 13 => a3 0
  | 14 => a3 1
  | 15 => a3 2
  | 16 => q36
  | _ => q45
set_option maxHeartbeats 4000000 in
set_option maxRecDepth 100000 in
theorem c_X5_init (l : Launch) (G : GG) (sz : Nat) (h0 : Nat) : CtM l yX5_init cX5_init 1 { frames := 2, cells := 17, slots := 1751, locals := 32 } G [.ref h0] [(h0, .inr (5, [.null, .null, .null, .null, .null, .null, .int 0, .int 0, .int 0]))] (fun (ad : Nat → Nat) => w_PL G ad (fun _ _ => 0) (fun _ _ => 0) (fun _ => 0) (fun _ => 0) (fun _ => 0) (fun _ _ => 0) (fun _ => 0) (fun _ _ => 0) (fun _ => 0) (fun _ _ => 0) (fun _ _ => 0) 0 0 (fun _ _ => 0) (fun _ _ _ => 0) (fun _ => 0) (fun _ _ => 0)) (fun ad => ad 0 = h0) sz := by
  refine ct_of (by decide) (Nat.le_of_ble_eq_true rfl) (fun p e s m below meth c ls C w hsz hl => ?_)
  have hx := C.1
  have hb := C.2.1
  have hl : lv_has ls 1 [(0, .ref h0)] := hl
  refine lv_aload_n hx hb dX5_init_0 rfl (lv_at hl 0 rfl) ?_
  refine r_objI C hl.1 tt_67 tt_68 tt_69 dX5_init_1 (Nat.le_of_ble_eq_true rfl) (Nat.le_of_ble_eq_true rfl) ?_
  refine lv_aload_n hx hb dX5_init_4 rfl (lv_at hl 0 rfl) ?_
  refine lv_bipush (v := (12)) hx hb dX5_init_5 (by decide) ?_
  refine r_newa (atype := .int) (ty := .int) C w 0 rfl rfl (fun _ h => h) tt_103 (12, .inl (fun _ => 0)) (fun cA => rfl) (by decide) rfl (Nat.le_of_ble_eq_true rfl) (Nat.le_of_ble_eq_true rfl) (Nat.le_of_ble_eq_true rfl) dX5_init_7 (fun q5 H w => ?_)
  have w : WD G _ ((h0, .inr (5, [.null, .null, .null, .null, .null, .null, .int 0, .int 0, .int 0])) :: [(q5, .inl (G.2 0, 12, .inl (fun _ => 0)))]) s H _ := w
  refine r_putF C w 0 5 0 ((h0, .inr (5, [.ref q5, .null, .null, .null, .null, .null, .int 0, .int 0, .int 0])) :: [(q5, .inl (G.2 0, 12, .inl (fun _ => 0)))]) tyX5_ok nmX5 rfl rfl inX5 (by decide) tt_156 rfl rfl rfl rfl rfl (Nat.le_of_ble_eq_true rfl) rfl dX5_init_9 (fun H locs w => ?_)
  refine lv_aload_n hx hb dX5_init_12 rfl (lv_at hl 0 rfl) ?_
  refine r_new C w 4 rfl inX4 tyX4_ok tt_70 tt_71 tt_54 (fs := [.null, .null, .null, .null, .null, .int 0, .int 0]) (fun j hj => by rcases (show j = 0 ∨ j = 1 ∨ j = 2 ∨ j = 3 ∨ j = 4 ∨ j = 5 ∨ j = 6 by omega) with rfl | rfl | rfl | rfl | rfl | rfl | rfl <;> rfl) (Nat.le_of_ble_eq_true rfl) (Nat.le_of_ble_eq_true rfl) dX5_init_13 (fun q13 H w => ?_)
  refine lv_dup hx hb dX5_init_16 rfl ?_
  have w0 : WD G _ (((h0, .inr (5, [.ref q5, .null, .null, .null, .null, .null, .int 0, .int 0, .int 0])) :: [(q5, .inl (G.2 0, 12, .inl (fun _ => 0)))]) ++ ([(q13, .inr (4, [.null, .null, .null, .null, .null, .int 0, .int 0]))] ++ [])) s H _ := w
  refine cl_m w0 (run_IN (As := []) (rest := [.ref q13, .ref h0]) C w0 (c_X4_init l G _ q13) mt_X4_init nn_72 rfl rfl ⟨(Nat.le_of_ble_eq_true rfl), (Nat.le_of_ble_eq_true rfl)⟩ hl.1 (Nat.le_of_ble_eq_true rfl) dX5_init_17 ⟨(Nat.le_of_ble_eq_true rfl), (Nat.le_of_ble_eq_true rfl)⟩) (fun a1 H locs had w9 => ?_)
  clear w w0
  subst had
  rw [List.append_nil] at w9
  have w : WD G _ ((h0, .inr (5, [.ref q5, .null, .null, .null, .null, .null, .int 0, .int 0, .int 0])) :: ([(q5, .inl (G.2 0, 12, .inl (fun _ => 0)))] ++ w_X4 G a1 (fun _ => 0) (fun _ _ => 0))) s H _ := w9
  refine r_putF C w 0 5 1 ((h0, .inr (5, [.ref q5, .ref (a1 0), .null, .null, .null, .null, .int 0, .int 0, .int 0])) :: ([(q5, .inl (G.2 0, 12, .inl (fun _ => 0)))] ++ w_X4 G a1 (fun _ => 0) (fun _ _ => 0))) tyX5_ok nmX5 rfl rfl inX5 (by decide) tt_157 rfl rfl rfl rfl rfl (Nat.le_of_ble_eq_true rfl) rfl dX5_init_20 (fun H locs w => ?_)
  refine lv_aload_n hx hb dX5_init_23 rfl (lv_at hl 0 rfl) ?_
  refine r_new C w 1 rfl inX1 tyX1_ok tt_104 tt_105 tt_55 (fs := [.null, .null, .null, .null, .int 0]) (fun j hj => by rcases (show j = 0 ∨ j = 1 ∨ j = 2 ∨ j = 3 ∨ j = 4 by omega) with rfl | rfl | rfl | rfl | rfl <;> rfl) (Nat.le_of_ble_eq_true rfl) (Nat.le_of_ble_eq_true rfl) dX5_init_24 (fun q24 H w => ?_)
  refine lv_dup hx hb dX5_init_27 rfl ?_
  have w0 : WD G _ (((h0, .inr (5, [.ref q5, .ref (a1 0), .null, .null, .null, .null, .int 0, .int 0, .int 0])) :: ([(q5, .inl (G.2 0, 12, .inl (fun _ => 0)))] ++ w_X4 G a1 (fun _ => 0) (fun _ _ => 0))) ++ ([(q24, .inr (1, [.null, .null, .null, .null, .int 0]))] ++ [])) s H _ := w
  refine cl_m w0 (run_IN (As := []) (rest := [.ref q24, .ref h0]) C w0 (c_X1_init l G _ q24) mt_X1_init nn_106 rfl rfl ⟨(Nat.le_of_ble_eq_true rfl), (Nat.le_of_ble_eq_true rfl)⟩ hl.1 (Nat.le_of_ble_eq_true rfl) dX5_init_28 ⟨(Nat.le_of_ble_eq_true rfl), (Nat.le_of_ble_eq_true rfl)⟩) (fun a2 H locs had w9 => ?_)
  clear w w0
  subst had
  rw [List.append_nil] at w9
  have w : WD G _ ((h0, .inr (5, [.ref q5, .ref (a1 0), .null, .null, .null, .null, .int 0, .int 0, .int 0])) :: ([(q5, .inl (G.2 0, 12, .inl (fun _ => 0)))] ++ (w_X4 G a1 (fun _ => 0) (fun _ _ => 0) ++ w_X1 G a2 (fun _ => 0) (fun _ _ => 0)))) s H _ := w9
  refine r_putF C w 0 5 2 ((h0, .inr (5, [.ref q5, .ref (a1 0), .ref (a2 0), .null, .null, .null, .int 0, .int 0, .int 0])) :: ([(q5, .inl (G.2 0, 12, .inl (fun _ => 0)))] ++ (w_X4 G a1 (fun _ => 0) (fun _ _ => 0) ++ w_X1 G a2 (fun _ => 0) (fun _ _ => 0)))) tyX5_ok nmX5 rfl rfl inX5 (by decide) tt_158 rfl rfl rfl rfl rfl (Nat.le_of_ble_eq_true rfl) rfl dX5_init_31 (fun H locs w => ?_)
  refine lv_aload_n hx hb dX5_init_34 rfl (lv_at hl 0 rfl) ?_
  refine lv_iconst (v := (4)) hx hb dX5_init_35 (by decide) ?_
  refine r_newq (cn := "WallDesk$Kind") C w 3 rfl tt_132 C.2.2.2.2.2.2.2.2.2.1 (by decide) rfl (Nat.le_of_ble_eq_true rfl) (Nat.le_of_ble_eq_true rfl) (Nat.le_of_ble_eq_true rfl) dX5_init_36 (fun q36 H w => ?_)
  have w : WD G _ ((h0, .inr (5, [.ref q5, .ref (a1 0), .ref (a2 0), .null, .null, .null, .int 0, .int 0, .int 0])) :: ([(q5, .inl (G.2 0, 12, .inl (fun _ => 0)))] ++ (w_X4 G a1 (fun _ => 0) (fun _ _ => 0) ++ (w_X1 G a2 (fun _ => 0) (fun _ _ => 0) ++ [(q36, .inl (G.2 3, 4, .inr (.inr (.inr (.inr (fun _ => none))))))])))) s H _ := w
  refine r_putF C w 0 5 3 ((h0, .inr (5, [.ref q5, .ref (a1 0), .ref (a2 0), .ref q36, .null, .null, .int 0, .int 0, .int 0])) :: ([(q5, .inl (G.2 0, 12, .inl (fun _ => 0)))] ++ (w_X4 G a1 (fun _ => 0) (fun _ _ => 0) ++ (w_X1 G a2 (fun _ => 0) (fun _ _ => 0) ++ [(q36, .inl (G.2 3, 4, .inr (.inr (.inr (.inr (fun _ => none))))))])))) tyX5_ok nmX5 rfl rfl inX5 (by decide) tt_159 rfl rfl rfl rfl rfl (Nat.le_of_ble_eq_true rfl) rfl dX5_init_39 (fun H locs w => ?_)
  refine lv_aload_n hx hb dX5_init_42 rfl (lv_at hl 0 rfl) ?_
  refine lv_bipush (v := (16)) hx hb dX5_init_43 (by decide) ?_
  refine r_newq (cn := "WallDesk$Case") C w 4 rfl tt_134 C.2.2.2.2.2.2.2.2.2.2 (by decide) rfl (Nat.le_of_ble_eq_true rfl) (Nat.le_of_ble_eq_true rfl) (Nat.le_of_ble_eq_true rfl) dX5_init_45 (fun q45 H w => ?_)
  have w : WD G _ ((h0, .inr (5, [.ref q5, .ref (a1 0), .ref (a2 0), .ref q36, .null, .null, .int 0, .int 0, .int 0])) :: ([(q5, .inl (G.2 0, 12, .inl (fun _ => 0)))] ++ (w_X4 G a1 (fun _ => 0) (fun _ _ => 0) ++ (w_X1 G a2 (fun _ => 0) (fun _ _ => 0) ++ ([(q36, .inl (G.2 3, 4, .inr (.inr (.inr (.inr (fun _ => none))))))] ++ [(q45, .inl (G.2 4, 16, .inr (.inr (.inr (.inr (fun _ => none))))))]))))) s H _ := w
  refine r_putF C w 0 5 4 ((h0, .inr (5, [.ref q5, .ref (a1 0), .ref (a2 0), .ref q36, .ref q45, .null, .int 0, .int 0, .int 0])) :: ([(q5, .inl (G.2 0, 12, .inl (fun _ => 0)))] ++ (w_X4 G a1 (fun _ => 0) (fun _ _ => 0) ++ (w_X1 G a2 (fun _ => 0) (fun _ _ => 0) ++ ([(q36, .inl (G.2 3, 4, .inr (.inr (.inr (.inr (fun _ => none))))))] ++ [(q45, .inl (G.2 4, 16, .inr (.inr (.inr (.inr (fun _ => none))))))]))))) tyX5_ok nmX5 rfl rfl inX5 (by decide) tt_160 rfl rfl rfl rfl rfl (Nat.le_of_ble_eq_true rfl) rfl dX5_init_48 (fun H locs w => ?_)
  refine lv_aload_n hx hb dX5_init_51 rfl (lv_at hl 0 rfl) ?_
  refine r_new C w 3 rfl inX3 tyX3_ok tt_136 tt_137 tt_56 (fs := [.null, .null, .int 0]) (fun j hj => by rcases (show j = 0 ∨ j = 1 ∨ j = 2 by omega) with rfl | rfl | rfl <;> rfl) (Nat.le_of_ble_eq_true rfl) (Nat.le_of_ble_eq_true rfl) dX5_init_52 (fun q52 H w => ?_)
  refine lv_dup hx hb dX5_init_55 rfl ?_
  have w0 : WD G _ (((h0, .inr (5, [.ref q5, .ref (a1 0), .ref (a2 0), .ref q36, .ref q45, .null, .int 0, .int 0, .int 0])) :: ([(q5, .inl (G.2 0, 12, .inl (fun _ => 0)))] ++ (w_X4 G a1 (fun _ => 0) (fun _ _ => 0) ++ (w_X1 G a2 (fun _ => 0) (fun _ _ => 0) ++ ([(q36, .inl (G.2 3, 4, .inr (.inr (.inr (.inr (fun _ => none))))))] ++ [(q45, .inl (G.2 4, 16, .inr (.inr (.inr (.inr (fun _ => none))))))]))))) ++ ([(q52, .inr (3, [.null, .null, .int 0]))] ++ [])) s H _ := w
  refine cl_m w0 (run_IN (As := []) (rest := [.ref q52, .ref h0]) C w0 (c_X3_init l G _ q52) mt_X3_init nn_138 rfl rfl ⟨(Nat.le_of_ble_eq_true rfl), (Nat.le_of_ble_eq_true rfl)⟩ hl.1 (Nat.le_of_ble_eq_true rfl) dX5_init_56 ⟨(Nat.le_of_ble_eq_true rfl), (Nat.le_of_ble_eq_true rfl)⟩) (fun a3 H locs had w9 => ?_)
  clear w w0
  subst had
  rw [List.append_nil] at w9
  have w : WD G _ ((h0, .inr (5, [.ref q5, .ref (a1 0), .ref (a2 0), .ref q36, .ref q45, .null, .int 0, .int 0, .int 0])) :: ([(q5, .inl (G.2 0, 12, .inl (fun _ => 0)))] ++ (w_X4 G a1 (fun _ => 0) (fun _ _ => 0) ++ (w_X1 G a2 (fun _ => 0) (fun _ _ => 0) ++ ([(q36, .inl (G.2 3, 4, .inr (.inr (.inr (.inr (fun _ => none))))))] ++ ([(q45, .inl (G.2 4, 16, .inr (.inr (.inr (.inr (fun _ => none))))))] ++ w_X3 G a3 (fun _ => 0) (fun _ _ => 0) (fun _ _ => 0))))))) s H _ := w9
  refine r_putF C w 0 5 5 ((h0, .inr (5, [.ref q5, .ref (a1 0), .ref (a2 0), .ref q36, .ref q45, .ref (a3 0), .int 0, .int 0, .int 0])) :: ([(q5, .inl (G.2 0, 12, .inl (fun _ => 0)))] ++ (w_X4 G a1 (fun _ => 0) (fun _ _ => 0) ++ (w_X1 G a2 (fun _ => 0) (fun _ _ => 0) ++ ([(q36, .inl (G.2 3, 4, .inr (.inr (.inr (.inr (fun _ => none))))))] ++ ([(q45, .inl (G.2 4, 16, .inr (.inr (.inr (.inr (fun _ => none))))))] ++ w_X3 G a3 (fun _ => 0) (fun _ _ => 0) (fun _ _ => 0))))))) tyX5_ok nmX5 rfl rfl inX5 (by decide) tt_161 rfl rfl rfl rfl rfl (Nat.le_of_ble_eq_true rfl) rfl dX5_init_59 (fun H locs w => ?_)
  refine ret_B C w (fun t ht => ⟨deskAd h0 q5 q36 q45 a1 a2 a3, rfl, ?_⟩) dX5_init_62
  refine QB.perm ?_ ht
  have e0 : ∀ kad : Nat → Nat → Nat, refs 0 kad = fun _ => none := fun kad => by funext j; simp [refs]
  unfold w_PL
  rw [e0]
  have e5 : ∀ (A B : va_W) (x y : Nat × va_E), (A ++ (x :: y :: B)).Perm (A ++ (B ++ [x, y])) := fun A B x y => (List.perm_append_comm (l₁ := [x, y]) (l₂ := B)).append_left A
  exact e5 ((h0, .inr (5, [.ref q5, .ref (a1 0), .ref (a2 0), .ref q36, .ref q45, .ref (a3 0), .int 0, .int 0, .int 0])) :: ([(q5, .inl (G.2 0, 12, .inl (fun _ => 0)))] ++ (w_X4 G a1 (fun _ => 0) (fun _ _ => 0) ++ w_X1 G a2 (fun _ => 0) (fun _ _ => 0)))) (w_X3 G a3 (fun _ => 0) (fun _ _ => 0) (fun _ _ => 0)) _ _
