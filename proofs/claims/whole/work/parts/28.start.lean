theorem Rel_0 : Rel (fun _ => 0) (fun _ => 0) (fun _ => 0) (fun _ _ => 0) (fun _ => 0) (fun _ _ => 0) (fun _ => 0) (fun _ _ => 0) (fun _ _ => 0) (0) (0) (fun _ _ => 0) (fun _ _ _ => 0) (fun _ => 0) (fun _ _ => 0) (fun _ => 0) (fun _ _ => 0) (fun _ _ => 0) := by
  refine ⟨0, 0, 0, 0, ⟨rfl, fun _ _ => rfl⟩, ⟨by omega, by omega, rfl, rfl, rfl, rfl, fun f h => (by omega), fun c hc i => ?_, fun o h => (by omega), fun u hu => ⟨rfl, rfl, fun i h => ?_, fun i h => ?_⟩⟩, ⟨by omega, rfl, rfl, fun g h => (by omega)⟩, ⟨by omega, rfl, rfl, fun i h => (by omega), fun i h => (by omega)⟩, ⟨by omega, rfl, rfl, fun k h => (by omega), fun k _ _ => rfl, fun q _ _ => ⟨rfl, rfl⟩⟩, ⟨by omega, rfl, rfl, fun c h => (by omega), fun k h => (by omega)⟩⟩
  · show bI 0 i = decide (i < 0 ∧ (0 : Int32) = nI c)
    rw [bI_0]; simp
  · have h : bI 0 i = true := h
    rw [bI_0] at h; cases h
  · have h : bI 0 i = true := h
    rw [bI_0] at h; cases h
set_option maxHeartbeats 4000000 in
set_option maxRecDepth 100000 in
/-- the machine's side of the start: what the tables and the premises say -/
theorem start_facts {p : Program} {s : State} {m : MethodId} {meth : Method} {c : Code} {b L : Nat} {xs : Nat → Int32} (C0 : lw_At p s m meth c b L xs) : CX p m meth c s #[.ref b] yL_law code 4 (some .boolean) ∧ ∃ G : GG, WD G (LwA s) [] s s.heap [] := by
  obtain ⟨hx, hb, hr, hml, hown, hts, hX, hbl, hlocks, hgv, hname, hcode⟩ := id C0
  have hTT : ∀ w ∈ TT, w.before #[Value.ref b] s = true := fun w h => hts w (List.mem_filter.mp h).1
  have hoK : (Cond.arrayOver (.object "WallDesk$Kind")).before #[Value.ref b] s = true := hts _ (List.mem_of_getElem? (i := 133) (by decide +kernel))
  have hoC : (Cond.arrayOver (.object "WallDesk$Case")).before #[Value.ref b] s = true := hts _ (List.mem_of_getElem? (i := 135) (by decide +kernel))
  have hnw : NWs s := by
    refine ⟨fun w hw => ?_, va_AO.of hoK, va_AO.of hoC⟩
    have h1 := hts w (List.mem_filter.mp hw).1
    have h2 := (List.mem_filter.mp hw).2
    exact va_Nw.of (by cases w <;> first | (simp [isNest] at h2; done) | rfl) h1
  have hCX : CX p m meth c s #[.ref b] yL_law code 4 (some .boolean) := by
    refine ⟨hx, hb, hr, hml, hown, hlocks, hname, fun w hw => ?_, hnw⟩
    rcases List.mem_cons.mp hw with rfl | hw
    · exact hcode
    · exact hTT w hw
  refine ⟨hCX, ?_⟩
  obtain ⟨c0, i0, hK0⟩ := u_known hTT inX0 (hTT _ tt_413)
  obtain ⟨c1, i1, hK1⟩ := u_known hTT inX1 (hTT _ tt_105)
  obtain ⟨c2, i2, hK2⟩ := u_known hTT inX2 (hTT _ tt_328)
  obtain ⟨c3, i3, hK3⟩ := u_known hTT inX3 (hTT _ tt_137)
  obtain ⟨c4, i4, hK4⟩ := u_known hTT inX4 (hTT _ tt_71)
  obtain ⟨c5, i5, hK5⟩ := u_known hTT inX5 (hTT _ tt_63)
  obtain ⟨c6, i6, hK6⟩ := u_known hTT inX6 (hTT _ tt_539)
  obtain ⟨aI, kI, pI, fI1, fI2, fI3⟩ := Cond.arrayClass_spec (hTT _ tt_103)
  obtain ⟨aJ, kJ, pJ, fJ1, fJ2, fJ3⟩ := Cond.arrayClass_spec (hTT _ tt_155)
  obtain ⟨aZ, kZ, pZ, fZ1, fZ2, fZ3⟩ := Cond.arrayClass_spec (hTT _ tt_131)
  obtain ⟨pK, aK, kK, fK1, -, fK2, fK3, fK4⟩ := Cond.arrayOver_spec hoK
  obtain ⟨pC, aC, kC, fC1, -, fC2, fC3, fC4⟩ := Cond.arrayOver_spec hoC
  let G : GG := ((fun k => match k with | 0 => c0 | 1 => c1 | 2 => c2 | 3 => c3 | 4 => c4 | 5 => c5 | _ => c6, fun k => match k with | 0 => i0 | 1 => i1 | 2 => i2 | 3 => i3 | 4 => i4 | 5 => i5 | _ => i6), fun k => match k with | 0 => aI | 1 => aJ | 2 => aZ | 3 => aK | _ => aC)
  have hK : va_K G.1 vwCl (TY G) s := by
    refine ⟨fun k q hq => ?_, fun k q hq => ?_⟩
    · match k, hq with
      | 0, hq => cases hq; exact hK0
      | 1, hq => cases hq; exact hK1
      | 2, hq => cases hq; exact hK2
      | 3, hq => cases hq; exact hK3
      | 4, hq => cases hq; exact hK4
      | 5, hq => cases hq; exact hK5
      | 6, hq => cases hq; exact hK6
      | k + 7, hq => simp [vwCl] at hq
    · match k, hq with
      | 0, hq => cases hq; exact ⟨fun n z => ⟨fun k h => (by cases h), kI, fI2, pI, fI3⟩, fI1⟩
      | 1, hq => cases hq; exact ⟨fun n z => ⟨fun k h => (by cases h), kJ, fJ2, pJ, fJ3⟩, fJ1⟩
      | 2, hq => cases hq; exact ⟨fun n z => ⟨fun k h => (by cases h), kZ, fZ2, pZ, fZ3⟩, fZ1⟩
      | 3, hq => cases hq; exact ⟨fun n z => ⟨fun k h => (by cases h), kK, fK2, pK, fK3⟩, kK, pK, fK2, fK3, fK1, fK4⟩
      | 4, hq => cases hq; exact ⟨fun n z => ⟨fun k h => (by cases h), kC, fC2, pC, fC3⟩, kC, pC, fC2, fC3, fC1, fC4⟩
      | k + 5, hq => simp [TY] at hq
  have hs := flat_of_before _ hgv
  have hA : ∀ a : Nat, a < s.heap.size → ¬ LwA s a := fun a h => Nat.not_le.mpr h
  have hZ : ZT (LwA s) s s.heap := by
    have h1 : (Cond.arrayOf (.static "WallDesk$Case" "SETS_WITHOUT" "[J") .long).before #[Value.ref b] s = true := hs _ (by decide +kernel)
    have h2 : (Cond.eq (.length (.static "WallDesk$Case" "SETS_WITHOUT" "[J")) (.int 6)).before #[Value.ref b] s = true := hs _ (by decide +kernel)
    have he : ∀ j : Nat, j < 6 → (Term.elem (.static "WallDesk$Case" "SETS_WITHOUT" "[J") (.int (Int32.ofNat j))).eval #[Value.ref b] s none [] s = some (.long (SW j)) := by
      intro j hj
      rcases (show j = 0 ∨ j = 1 ∨ j = 2 ∨ j = 3 ∨ j = 4 ∨ j = 5 by omega) with rfl | rfl | rfl | rfl | rfl | rfl
      · exact va_eqtl (show (Cond.eq (.elem (.static "WallDesk$Case" "SETS_WITHOUT" "[J") (.int 0)) (.long 6148914691236517205)).before #[Value.ref b] s = true from hs _ (by decide +kernel))
      · exact va_eqtl (show (Cond.eq (.elem (.static "WallDesk$Case" "SETS_WITHOUT" "[J") (.int 1)) (.long 3689348814741910323)).before #[Value.ref b] s = true from hs _ (by decide +kernel))
      · exact va_eqtl (show (Cond.eq (.elem (.static "WallDesk$Case" "SETS_WITHOUT" "[J") (.int 2)) (.long 1085102592571150095)).before #[Value.ref b] s = true from hs _ (by decide +kernel))
      · exact va_eqtl (show (Cond.eq (.elem (.static "WallDesk$Case" "SETS_WITHOUT" "[J") (.int 3)) (.long 71777214294589695)).before #[Value.ref b] s = true from hs _ (by decide +kernel))
      · exact va_eqtl (show (Cond.eq (.elem (.static "WallDesk$Case" "SETS_WITHOUT" "[J") (.int 4)) (.long 281470681808895)).before #[Value.ref b] s = true from hs _ (by decide +kernel))
      · exact va_eqtl (show (Cond.eq (.elem (.static "WallDesk$Case" "SETS_WITHOUT" "[J") (.int 5)) (.long 4294967295)).before #[Value.ref b] s = true from hs _ (by decide +kernel))
    obtain ⟨t, ht, hT⟩ := va_Tof (f := fun j => .long (SW j)) (N := 6) (by decide) h1 (va_eqt h2) he hA
    exact ⟨t, va_Zref (hts _ (List.mem_of_getElem? (i := 483) (by decide +kernel))) (hTT _ tt_60) ht hA, hT⟩
  exact ⟨G, fun k q h => by simp at h, ⟨fun i j p q h => by simp at h, fun k q h => by simp at h⟩, va_S.rf, hK, fun _ h => h, hZ⟩
set_option maxHeartbeats 4000000 in
set_option maxRecDepth 100000 in
theorem whole_start {p : Program} {e : Env} {s : State} {m : MethodId} {below : List Frame} {meth : Method} {c : Code} (l : Launch) (hflags : l.flags = flags0) {b L : Nat} {xs : Nat → Int32} (hL : L ≤ 2048) (C0 : lw_At p s m meth c b L xs) : W p l e room_1 s m #[Value.ref b] below meth c s.heap [] 0 0 (lw_Z below #[Value.ref b] s) (entryFrame m ([Value.ref b] : List Value).toArray 4) := by
  obtain ⟨C, G, w⟩ := start_facts C0
  obtain ⟨-, -, -, -, -, -, hX, hbl, -, -, -, -⟩ := C0
  have hx := C.1
  have hb := C.2.1
  have hl := lv_entry ([.ref b]) (n := 4) (Nat.le_of_ble_eq_true rfl)
  rw [lg_entry_eq]
  generalize (lg_sl ([.ref b]) ++ List.replicate (4 - (lg_sl ([.ref b])).length) Slot.unset).toArray = ls at hl ⊢
  have hl : lv_has ls 4 [(0, .ref b)] := hl
  refine r_new C w 5 rfl inX5 tyX5_ok tt_62 tt_63 tt_53 (fs := [.null, .null, .null, .null, .null, .null, .int 0, .int 0, .int 0]) (fun j hj => by rcases (show j = 0 ∨ j = 1 ∨ j = 2 ∨ j = 3 ∨ j = 4 ∨ j = 5 ∨ j = 6 ∨ j = 7 ∨ j = 8 by omega) with rfl | rfl | rfl | rfl | rfl | rfl | rfl | rfl | rfl <;> rfl) (Nat.le_of_ble_eq_true rfl) (Nat.le_of_ble_eq_true rfl) dL_law_0 (fun q5 H w => ?_)
  refine lv_dup hx hb dL_law_3 rfl ?_
  have w0 : WD G (LwA s) ([] ++ ([(q5, .inr (5, [.null, .null, .null, .null, .null, .null, .int 0, .int 0, .int 0]))] ++ [])) s H _ := w
  refine cl_m w0 (run_I (As := []) (rest := [.ref q5]) C w0 (c_X5_init l G _ q5) mt_X5_init tt_64 rfl rfl ⟨Nat.le_of_ble_eq_true rfl, Nat.le_of_ble_eq_true rfl⟩ hl.1 (Nat.le_of_ble_eq_true rfl) dL_law_4 ⟨Nat.le_of_ble_eq_true rfl, Nat.le_of_ble_eq_true rfl⟩) (fun ad H locs had w9 => ?_)
  clear w w0
  rw [List.append_nil] at w9
  have w : WD G (LwA s) (w_PL G ad (fun _ _ => 0) (fun _ _ => 0) (fun _ => 0) (fun _ => 0) (fun _ => 0) (fun _ _ => 0) (fun _ => 0) (fun _ _ => 0) (fun _ => 0) (fun _ _ => 0) (fun _ _ => 0) (0) (0) (fun _ _ => 0) (fun _ _ _ => 0) (fun _ => 0) (fun _ _ => 0)) s H locs := w9
  refine lv_astore_n (lv' := [(1, .ref q5), (0, .ref b)]) hx hb dL_law_7 rfl hl (by decide) rfl (fun ls hl => ?_)
  refine r_new C w 6 rfl inX6 tyX6_ok tt_538 tt_539 tt_57 (fs := [.int 0, .null, .null, .null, .null, .int 0, .null, .int 0, .null, .null, .null, .null, .int 0, .null, .null, .null, .null, .null, .null, .int 0, .null, .null, .int 0, .null, .null, .int 0, .null]) (fun j hj => by rcases (show j = 0 ∨ j = 1 ∨ j = 2 ∨ j = 3 ∨ j = 4 ∨ j = 5 ∨ j = 6 ∨ j = 7 ∨ j = 8 ∨ j = 9 ∨ j = 10 ∨ j = 11 ∨ j = 12 ∨ j = 13 ∨ j = 14 ∨ j = 15 ∨ j = 16 ∨ j = 17 ∨ j = 18 ∨ j = 19 ∨ j = 20 ∨ j = 21 ∨ j = 22 ∨ j = 23 ∨ j = 24 ∨ j = 25 ∨ j = 26 by omega) with rfl | rfl | rfl | rfl | rfl | rfl | rfl | rfl | rfl | rfl | rfl | rfl | rfl | rfl | rfl | rfl | rfl | rfl | rfl | rfl | rfl | rfl | rfl | rfl | rfl | rfl | rfl <;> rfl) (Nat.le_of_ble_eq_true rfl) (Nat.le_of_ble_eq_true rfl) dL_law_8 (fun q6 H w => ?_)
  refine lv_dup hx hb dL_law_11 rfl ?_
  have w0 : WD G (LwA s) (w_PL G ad (fun _ _ => 0) (fun _ _ => 0) (fun _ => 0) (fun _ => 0) (fun _ => 0) (fun _ _ => 0) (fun _ => 0) (fun _ _ => 0) (fun _ => 0) (fun _ _ => 0) (fun _ _ => 0) (0) (0) (fun _ _ => 0) (fun _ _ _ => 0) (fun _ => 0) (fun _ _ => 0) ++ ([(q6, .inr (6, [.int 0, .null, .null, .null, .null, .int 0, .null, .int 0, .null, .null, .null, .null, .int 0, .null, .null, .null, .null, .null, .null, .int 0, .null, .null, .int 0, .null, .null, .int 0, .null]))] ++ [])) s H _ := w
  refine cl_m w0 (run_I (As := []) (rest := [.ref q6]) C w0 (c_X6_init l G _ q6) mt_X6_init tt_540 rfl rfl ⟨Nat.le_of_ble_eq_true rfl, Nat.le_of_ble_eq_true rfl⟩ hl.1 (Nat.le_of_ble_eq_true rfl) dL_law_12 ⟨Nat.le_of_ble_eq_true rfl, Nat.le_of_ble_eq_true rfl⟩) (fun am H locs ham w9 => ?_)
  clear w w0
  rw [List.append_nil] at w9
  have w : WD G (LwA s) (w_PL G ad (fun _ _ => 0) (fun _ _ => 0) (fun _ => 0) (fun _ => 0) (fun _ => 0) (fun _ _ => 0) (fun _ => 0) (fun _ _ => 0) (fun _ => 0) (fun _ _ => 0) (fun _ _ => 0) (0) (0) (fun _ _ => 0) (fun _ _ _ => 0) (fun _ => 0) (fun _ _ => 0) ++ w_X6 G am (fun _ => 0) (fun _ _ => 0) (fun _ _ => 0)) s H locs := w9
  refine lv_astore_n (lv' := [(2, .ref q6), (1, .ref q5), (0, .ref b)]) hx hb dL_law_15 rfl hl (by decide) rfl (fun ls hl => ?_)
  refine lv_iconst (v := 0) hx hb dL_law_16 (by decide) ?_
  refine lv_istore_n (lv' := [(3, .int 0), (2, .ref q6), (1, .ref q5), (0, .ref b)]) hx hb dL_law_17 rfl hl (by decide) rfl (fun ls hl => ?_)
  refine W.widen (k := 39 + 5 * 0) (n := 3957 + 31 * 0) (by show 0 + 1 + 17 + 1 + 20 ≤ 39 + 5 * 0; omega) (by show 0 + 9 + 1751 + 27 + 2170 ≤ 3957 + 31 * 0; omega) ?_
  exact law_loop C hX hbl hL 513 0 (by omega) (by omega) H locs ls ⟨ad, fun _ _ => 0, fun _ _ => 0, am, fun _ => 0, fun _ => 0, fun _ => 0, fun _ _ => 0, fun _ => 0, fun _ _ => 0, fun _ => 0, fun _ _ => 0, fun _ _ => 0, 0, 0, fun _ _ => 0, fun _ _ _ => 0, fun _ => 0, fun _ _ => 0, fun _ => 0, fun _ _ => 0, fun _ _ => 0, had, ham, Rel_0, w⟩ hl
