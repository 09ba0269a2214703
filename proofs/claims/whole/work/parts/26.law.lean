/-! the law: one call on both sides, for each of its kinds -/
def LwA (s : State) : Nat → Prop := fun q => s.heap.size ≤ q
def plT (G : GG) (ad : Nat → Nat) (kad cad : Nat → Nat → Nat) (nK nC : Nat) (KI : Nat → Nat → Int32) (KA : Nat → Nat → Nat → Int32) (CK : Nat → Nat) (CD : Nat → Nat → Int32) : va_W := aK G ad (refs nK kad) :: aC G ad (refs nC cad) :: ((List.range nK).flatMap (kCells G kad KI KA) ++ (List.range nC).flatMap (cCells G kad cad CK CD))
/-- both objects stand in the heap, and agree -/
def LInv (G : GG) (s : State) (q1 q2 : Nat) (H : Heap) (locs : List Loc) : Prop := ∃ (ad : Nat → Nat) (kad cad : Nat → Nat → Nat) (am : Nat → Nat) (I : Nat → Int32) (R : Nat → Int32) (WI : Nat → Int32) (WA : Nat → Nat → Int32) (GI : Nat → Int32) (GA : Nat → Nat → Int32) (LI : Nat → Int32) (LA : Nat → Nat → Int32) (LJ : Nat → Nat → Int64) (nK : Nat) (nC : Nat) (KI : Nat → Nat → Int32) (KA : Nat → Nat → Nat → Int32) (CK : Nat → Nat) (CD : Nat → Nat → Int32) (Mi : Nat → Int32) (Ma : Nat → Nat → Int32) (Mj : Nat → Nat → Int64), ad 0 = q1 ∧ am 0 = q2 ∧ Rel I R WI WA GI GA LI LA LJ nK nC KI KA CK CD Mi Ma Mj ∧ WD G (LwA s) (w_PL G ad kad cad I R WI WA GI GA LI LA LJ nK nC KI KA CK CD ++ w_X6 G am Mi Ma Mj) s H locs
theorem WD.eqw {G : GG} {A : Nat → Prop} {ws ws' : va_W} {s : State} {H : Heap} {locs : List Loc} (w : WD G A ws s H locs) (h : ws = ws') : WD G A ws' s H locs := h ▸ w
theorem Rel_ns {I : Nat → Int32} {R : Nat → Int32} {WI : Nat → Int32} {WA : Nat → Nat → Int32} {GI : Nat → Int32} {GA : Nat → Nat → Int32} {LI : Nat → Int32} {LA : Nat → Nat → Int32} {LJ : Nat → Nat → Int64} {nK : Nat} {nC : Nat} {KI : Nat → Nat → Int32} {KA : Nat → Nat → Nat → Int32} {CK : Nat → Nat} {CD : Nat → Nat → Int32} {Mi : Nat → Int32} {Ma : Nat → Nat → Int32} {Mj : Nat → Nat → Int64} (h : Rel I R WI WA GI GA LI LA LJ nK nC KI KA CK CD Mi Ma Mj) : I 6 = nI nK ∧ nK ≤ 4 ∧ I 7 = nI nC ∧ nC ≤ 16 ∧ ∀ j, j < nC → CK j < nK := by
  obtain ⟨nF, nO, nG, nE, hb, hw, hg, hl, hk, hc⟩ := h
  exact ⟨hk.2.1, hk.1, hc.2.1, hc.1, fun j hj => (hc.2.2.2.1 j hj).1⟩
section LAW
variable {p : Program} {l : Launch} {e : Env} {s : State} {m : MethodId} {below : List Frame} {meth : Method} {c : Code} {H : Heap} {locs : List Loc} {cells slots : Nat} {Q : State → Prop} {ls : Array Slot} {b L q1 q2 i : Nat} {xs : Nat → Int32} {G : GG}
set_option maxHeartbeats 4000000 in
set_option maxRecDepth 100000 in
theorem law_tick (C : CX p m meth c s #[.ref b] yL_law code 4 (some .boolean)) (hX : va_X b L xs s s.heap) (hbl : b < s.heap.size) (hi : i + 3 < L) (hL : L ≤ 2048) (hl : lv_has ls 4 [(3, .int (nI i)), (2, .ref q2), (1, .ref q1), (0, .ref b)]) (hce : cells + 5 ≤ 613125) (hsl : slots + 31 ≤ 7262874) (hV : LInv G s q1 q2 H locs) (kk : ∀ (H1 : Heap) (locs1 : List Loc), LInv G s q1 q2 H1 locs1 → W p l e room_1 s m #[.ref b] below meth c H1 locs1 (cells + 5) (slots + 31) Q (F0 m 887 ls [])) : W p l e room_1 s m #[.ref b] below meth c H locs cells slots Q (F0 m 144 ls []) := by
  obtain ⟨ad, kad, cad, am, I, R, WI, WA, GI, GA, LI, LA, LJ, nK, nC, KI, KA, CK, CD, Mi, Ma, Mj, had, ham, hR, w⟩ := hV
  subst had; subst ham
  obtain ⟨hI6, hn4, hI7, hn16, hCK⟩ := Rel_ns hR
  have hx := C.1
  have hb := C.2.1
  have hbA : ¬ LwA s b := Nat.not_le.mpr hbl
  have in1 : vp_in (nI i + 1) L := by rw [xa1]; exact vp_in_nI (by omega) (by omega)
  refine lv_aload_n hx hb dL_law_144 rfl (lv_at hl 2 rfl) ?_
  refine lv_aload_n hx hb dL_law_145 rfl (lv_at hl 3 rfl) ?_
  refine lv_iload_n hx hb dL_law_146 rfl (lv_at hl 0 rfl) ?_
  refine lv_iconst (v := 1) hx hb dL_law_147 (by decide) ?_
  refine lv_iadd hx hb dL_law_148 ?_
  refine va_sld hx hb hX hbl hbA w.2.2.1 in1 dL_law_149 ?_
  obtain ⟨r, I', R', WI', WA', GI', GA', LI', LA', LJ', Mi', Ma', Mj', e1, e2, hR'⟩ := m_tick (xs (nI i + 1).toNatClampNeg) hR
  have w0 : WD G (LwA s) ([] ++ (w_X5 G ad I R WI WA GI GA LI LA LJ ++ (plT G ad kad cad nK nC KI KA CK CD ++ w_X6 G am Mi Ma Mj))) s _ _ := w.eqw (show w_PL G ad kad cad I R WI WA GI GA LI LA LJ nK nC KI KA CK CD ++ w_X6 G am Mi Ma Mj = [] ++ (w_X5 G ad I R WI WA GI GA LI LA LJ ++ (plT G ad kad cad nK nC KI KA CK CD ++ w_X6 G am Mi Ma Mj)) from List.append_assoc (w_X5 G ad I R WI WA GI GA LI LA LJ) (plT G ad kad cad nK nC KI KA CK CD) (w_X6 G am Mi Ma Mj))
  refine cl_i (wc' := w_X5 G ad (I') (R') (WI') (WA') (GI') (GA') (LI') (LA') (LJ')) w0 (run_V (As := [.int (xs (nI i + 1).toNatClampNeg)]) (rest := []) C w0 (c_X5_tick l G ad _ _ _ _ _ _ _ _ _ _ _ _ _ _ _ _ _ _ _ _ _ e1) mt_X5_tick tt_184 5 rfl rfl rfl rfl ⟨Nat.le_of_ble_eq_true rfl, Nat.le_of_ble_eq_true rfl⟩ hl.1 (Nat.le_of_ble_eq_true rfl) dL_law_150 ⟨by show cells + 0 ≤ 613125; omega, by show slots + 0 ≤ 7262874; omega⟩) (fun H locs w => ?_)
  have w : WD G (LwA s) (w_PL G ad kad cad (I') (R') (WI') (WA') (GI') (GA') (LI') (LA') (LJ') nK nC KI KA CK CD ++ w_X6 G am Mi Ma Mj) s H locs := w.eqw (show [] ++ (w_X5 G ad (I') (R') (WI') (WA') (GI') (GA') (LI') (LA') (LJ') ++ (plT G ad kad cad nK nC KI KA CK CD ++ w_X6 G am Mi Ma Mj)) = w_PL G ad kad cad (I') (R') (WI') (WA') (GI') (GA') (LI') (LA') (LJ') nK nC KI KA CK CD ++ w_X6 G am Mi Ma Mj from (List.append_assoc (w_X5 G ad (I') (R') (WI') (WA') (GI') (GA') (LI') (LA') (LJ')) (plT G ad kad cad nK nC KI KA CK CD) (w_X6 G am Mi Ma Mj)).symm)
  refine lv_aload_n hx hb dL_law_153 rfl (lv_at hl 1 rfl) ?_
  refine lv_aload_n hx hb dL_law_154 rfl (lv_at hl 3 rfl) ?_
  refine lv_iload_n hx hb dL_law_155 rfl (lv_at hl 0 rfl) ?_
  refine lv_iconst (v := 1) hx hb dL_law_156 (by decide) ?_
  refine lv_iadd hx hb dL_law_157 ?_
  refine va_sld hx hb hX hbl hbA w.2.2.1 in1 dL_law_158 ?_
  have w0 : WD G (LwA s) (w_PL G ad kad cad (I') (R') (WI') (WA') (GI') (GA') (LI') (LA') (LJ') nK nC KI KA CK CD ++ (w_X6 G am Mi Ma Mj ++ [])) s _ _ := w.eqw (by rw [List.append_nil])
  refine cl_i (wc' := w_X6 G am (Mi') (Ma') (Mj')) w0 (run_V (As := [.int (xs (nI i + 1).toNatClampNeg)]) (rest := [.int r]) C w0 (c_X6_tick l G am _ _ _ _ _ _ _ _ _ e2) mt_X6_tick tt_626 6 rfl rfl rfl rfl ⟨Nat.le_of_ble_eq_true rfl, Nat.le_of_ble_eq_true rfl⟩ hl.1 (Nat.le_of_ble_eq_true rfl) dL_law_159 ⟨by show cells + 0 ≤ 613125; omega, by show slots + 0 ≤ 7262874; omega⟩) (fun H locs w => ?_)
  have w : WD G (LwA s) (w_PL G ad kad cad (I') (R') (WI') (WA') (GI') (GA') (LI') (LA') (LJ') nK nC KI KA CK CD ++ w_X6 G am (Mi') (Ma') (Mj')) s H locs := w.eqw (by rw [List.append_nil])
  refine lv_icmp_eq (tgt := 887) hx hb dL_law_162 (by decide) (fun _ => ?_) (fun z => absurd rfl z)
  refine W.widen (k := cells + 5) (n := slots + 31) (by show cells ≤ cells + 5; omega) (by show slots ≤ slots + 31; omega) ?_
  exact kk _ _ ⟨ad, kad, cad, am, I', R', WI', WA', GI', GA', LI', LA', LJ', nK, nC, KI, KA, CK, CD, Mi', Ma', Mj', rfl, rfl, hR', w⟩
set_option maxHeartbeats 4000000 in
set_option maxRecDepth 100000 in
theorem law_roles (C : CX p m meth c s #[.ref b] yL_law code 4 (some .boolean)) (hX : va_X b L xs s s.heap) (hbl : b < s.heap.size) (hi : i + 3 < L) (hL : L ≤ 2048) (hl : lv_has ls 4 [(3, .int (nI i)), (2, .ref q2), (1, .ref q1), (0, .ref b)]) (hce : cells + 5 ≤ 613125) (hsl : slots + 31 ≤ 7262874) (hV : LInv G s q1 q2 H locs) (kk : ∀ (H1 : Heap) (locs1 : List Loc), LInv G s q1 q2 H1 locs1 → W p l e room_1 s m #[.ref b] below meth c H1 locs1 (cells + 5) (slots + 31) Q (F0 m 887 ls [])) : W p l e room_1 s m #[.ref b] below meth c H locs cells slots Q (F0 m 167 ls []) := by
  obtain ⟨ad, kad, cad, am, I, R, WI, WA, GI, GA, LI, LA, LJ, nK, nC, KI, KA, CK, CD, Mi, Ma, Mj, had, ham, hR, w⟩ := hV
  subst had; subst ham
  obtain ⟨hI6, hn4, hI7, hn16, hCK⟩ := Rel_ns hR
  have hx := C.1
  have hb := C.2.1
  have hbA : ¬ LwA s b := Nat.not_le.mpr hbl
  have in1 : vp_in (nI i + 1) L := by rw [xa1]; exact vp_in_nI (by omega) (by omega)
  have in2 : vp_in (nI i + 2) L := by rw [xa2]; exact vp_in_nI (by omega) (by omega)
  refine lv_aload_n hx hb dL_law_167 rfl (lv_at hl 2 rfl) ?_
  refine lv_aload_n hx hb dL_law_168 rfl (lv_at hl 3 rfl) ?_
  refine lv_iload_n hx hb dL_law_169 rfl (lv_at hl 0 rfl) ?_
  refine lv_iconst (v := 1) hx hb dL_law_170 (by decide) ?_
  refine lv_iadd hx hb dL_law_171 ?_
  refine va_sld hx hb hX hbl hbA w.2.2.1 in1 dL_law_172 ?_
  refine lv_aload_n hx hb dL_law_173 rfl (lv_at hl 3 rfl) ?_
  refine lv_iload_n hx hb dL_law_174 rfl (lv_at hl 0 rfl) ?_
  refine lv_iconst (v := 2) hx hb dL_law_175 (by decide) ?_
  refine lv_iadd hx hb dL_law_176 ?_
  refine va_sld hx hb hX hbl hbA w.2.2.1 in2 dL_law_177 ?_
  obtain ⟨r, I', R', WI', WA', GI', GA', LI', LA', LJ', Mi', Ma', Mj', e1, e2, hR'⟩ := m_roles (xs (nI i + 1).toNatClampNeg) (xs (nI i + 2).toNatClampNeg) hR
  have w0 : WD G (LwA s) ([] ++ (w_X5 G ad I R WI WA GI GA LI LA LJ ++ (plT G ad kad cad nK nC KI KA CK CD ++ w_X6 G am Mi Ma Mj))) s _ _ := w.eqw (show w_PL G ad kad cad I R WI WA GI GA LI LA LJ nK nC KI KA CK CD ++ w_X6 G am Mi Ma Mj = [] ++ (w_X5 G ad I R WI WA GI GA LI LA LJ ++ (plT G ad kad cad nK nC KI KA CK CD ++ w_X6 G am Mi Ma Mj)) from List.append_assoc (w_X5 G ad I R WI WA GI GA LI LA LJ) (plT G ad kad cad nK nC KI KA CK CD) (w_X6 G am Mi Ma Mj))
  refine cl_i (wc' := w_X5 G ad (I') (R') (WI') (WA') (GI') (GA') (LI') (LA') (LJ')) w0 (run_V (As := [.int (xs (nI i + 1).toNatClampNeg), .int (xs (nI i + 2).toNatClampNeg)]) (rest := []) C w0 (c_X5_roles l G ad _ _ _ _ _ _ _ _ _ _ _ _ _ _ _ _ _ _ _ _ _ _ e1) mt_X5_roles tt_189 5 rfl rfl rfl rfl ⟨Nat.le_of_ble_eq_true rfl, Nat.le_of_ble_eq_true rfl⟩ hl.1 (Nat.le_of_ble_eq_true rfl) dL_law_178 ⟨by show cells + 0 ≤ 613125; omega, by show slots + 0 ≤ 7262874; omega⟩) (fun H locs w => ?_)
  have w : WD G (LwA s) (w_PL G ad kad cad (I') (R') (WI') (WA') (GI') (GA') (LI') (LA') (LJ') nK nC KI KA CK CD ++ w_X6 G am Mi Ma Mj) s H locs := w.eqw (show [] ++ (w_X5 G ad (I') (R') (WI') (WA') (GI') (GA') (LI') (LA') (LJ') ++ (plT G ad kad cad nK nC KI KA CK CD ++ w_X6 G am Mi Ma Mj)) = w_PL G ad kad cad (I') (R') (WI') (WA') (GI') (GA') (LI') (LA') (LJ') nK nC KI KA CK CD ++ w_X6 G am Mi Ma Mj from (List.append_assoc (w_X5 G ad (I') (R') (WI') (WA') (GI') (GA') (LI') (LA') (LJ')) (plT G ad kad cad nK nC KI KA CK CD) (w_X6 G am Mi Ma Mj)).symm)
  refine lv_aload_n hx hb dL_law_181 rfl (lv_at hl 1 rfl) ?_
  refine lv_aload_n hx hb dL_law_182 rfl (lv_at hl 3 rfl) ?_
  refine lv_iload_n hx hb dL_law_183 rfl (lv_at hl 0 rfl) ?_
  refine lv_iconst (v := 1) hx hb dL_law_184 (by decide) ?_
  refine lv_iadd hx hb dL_law_185 ?_
  refine va_sld hx hb hX hbl hbA w.2.2.1 in1 dL_law_186 ?_
  refine lv_aload_n hx hb dL_law_187 rfl (lv_at hl 3 rfl) ?_
  refine lv_iload_n hx hb dL_law_188 rfl (lv_at hl 0 rfl) ?_
  refine lv_iconst (v := 2) hx hb dL_law_189 (by decide) ?_
  refine lv_iadd hx hb dL_law_190 ?_
  refine va_sld hx hb hX hbl hbA w.2.2.1 in2 dL_law_191 ?_
  have w0 : WD G (LwA s) (w_PL G ad kad cad (I') (R') (WI') (WA') (GI') (GA') (LI') (LA') (LJ') nK nC KI KA CK CD ++ (w_X6 G am Mi Ma Mj ++ [])) s _ _ := w.eqw (by rw [List.append_nil])
  refine cl_i (wc' := w_X6 G am (Mi') (Ma') (Mj')) w0 (run_V (As := [.int (xs (nI i + 1).toNatClampNeg), .int (xs (nI i + 2).toNatClampNeg)]) (rest := [.int r]) C w0 (c_X6_roles l G am _ _ _ _ _ _ _ _ _ _ e2) mt_X6_roles tt_634 6 rfl rfl rfl rfl ⟨Nat.le_of_ble_eq_true rfl, Nat.le_of_ble_eq_true rfl⟩ hl.1 (Nat.le_of_ble_eq_true rfl) dL_law_192 ⟨by show cells + 0 ≤ 613125; omega, by show slots + 0 ≤ 7262874; omega⟩) (fun H locs w => ?_)
  have w : WD G (LwA s) (w_PL G ad kad cad (I') (R') (WI') (WA') (GI') (GA') (LI') (LA') (LJ') nK nC KI KA CK CD ++ w_X6 G am (Mi') (Ma') (Mj')) s H locs := w.eqw (by rw [List.append_nil])
  refine lv_icmp_eq (tgt := 887) hx hb dL_law_195 (by decide) (fun _ => ?_) (fun z => absurd rfl z)
  refine W.widen (k := cells + 5) (n := slots + 31) (by show cells ≤ cells + 5; omega) (by show slots ≤ slots + 31; omega) ?_
  exact kk _ _ ⟨ad, kad, cad, am, I', R', WI', WA', GI', GA', LI', LA', LJ', nK, nC, KI, KA, CK, CD, Mi', Ma', Mj', rfl, rfl, hR', w⟩
set_option maxHeartbeats 4000000 in
set_option maxRecDepth 100000 in
theorem law_firm (C : CX p m meth c s #[.ref b] yL_law code 4 (some .boolean)) (hX : va_X b L xs s s.heap) (hbl : b < s.heap.size) (hi : i + 3 < L) (hL : L ≤ 2048) (hl : lv_has ls 4 [(3, .int (nI i)), (2, .ref q2), (1, .ref q1), (0, .ref b)]) (hce : cells + 5 ≤ 613125) (hsl : slots + 31 ≤ 7262874) (hV : LInv G s q1 q2 H locs) (kk : ∀ (H1 : Heap) (locs1 : List Loc), LInv G s q1 q2 H1 locs1 → W p l e room_1 s m #[.ref b] below meth c H1 locs1 (cells + 5) (slots + 31) Q (F0 m 887 ls [])) : W p l e room_1 s m #[.ref b] below meth c H locs cells slots Q (F0 m 200 ls []) := by
  obtain ⟨ad, kad, cad, am, I, R, WI, WA, GI, GA, LI, LA, LJ, nK, nC, KI, KA, CK, CD, Mi, Ma, Mj, had, ham, hR, w⟩ := hV
  subst had; subst ham
  obtain ⟨hI6, hn4, hI7, hn16, hCK⟩ := Rel_ns hR
  have hx := C.1
  have hb := C.2.1
  have hbA : ¬ LwA s b := Nat.not_le.mpr hbl
  have in1 : vp_in (nI i + 1) L := by rw [xa1]; exact vp_in_nI (by omega) (by omega)
  refine lv_aload_n hx hb dL_law_200 rfl (lv_at hl 2 rfl) ?_
  refine lv_aload_n hx hb dL_law_201 rfl (lv_at hl 3 rfl) ?_
  refine lv_iload_n hx hb dL_law_202 rfl (lv_at hl 0 rfl) ?_
  refine lv_iconst (v := 1) hx hb dL_law_203 (by decide) ?_
  refine lv_iadd hx hb dL_law_204 ?_
  refine va_sld hx hb hX hbl hbA w.2.2.1 in1 dL_law_205 ?_
  obtain ⟨r, I', R', WI', WA', GI', GA', LI', LA', LJ', Mi', Ma', Mj', e1, e2, hR'⟩ := m_firm (xs (nI i + 1).toNatClampNeg) hR
  have w0 : WD G (LwA s) ([] ++ (w_X5 G ad I R WI WA GI GA LI LA LJ ++ (plT G ad kad cad nK nC KI KA CK CD ++ w_X6 G am Mi Ma Mj))) s _ _ := w.eqw (show w_PL G ad kad cad I R WI WA GI GA LI LA LJ nK nC KI KA CK CD ++ w_X6 G am Mi Ma Mj = [] ++ (w_X5 G ad I R WI WA GI GA LI LA LJ ++ (plT G ad kad cad nK nC KI KA CK CD ++ w_X6 G am Mi Ma Mj)) from List.append_assoc (w_X5 G ad I R WI WA GI GA LI LA LJ) (plT G ad kad cad nK nC KI KA CK CD) (w_X6 G am Mi Ma Mj))
  refine cl_i (wc' := w_X5 G ad (I') (R') (WI') (WA') (GI') (GA') (LI') (LA') (LJ')) w0 (run_V (As := [.int (xs (nI i + 1).toNatClampNeg)]) (rest := []) C w0 (c_X5_firm l G ad _ _ _ _ _ _ _ _ _ _ _ _ _ _ _ _ _ _ _ _ _ e1) mt_X5_firm tt_199 5 rfl rfl rfl rfl ⟨Nat.le_of_ble_eq_true rfl, Nat.le_of_ble_eq_true rfl⟩ hl.1 (Nat.le_of_ble_eq_true rfl) dL_law_206 ⟨by show cells + 0 ≤ 613125; omega, by show slots + 0 ≤ 7262874; omega⟩) (fun H locs w => ?_)
  have w : WD G (LwA s) (w_PL G ad kad cad (I') (R') (WI') (WA') (GI') (GA') (LI') (LA') (LJ') nK nC KI KA CK CD ++ w_X6 G am Mi Ma Mj) s H locs := w.eqw (show [] ++ (w_X5 G ad (I') (R') (WI') (WA') (GI') (GA') (LI') (LA') (LJ') ++ (plT G ad kad cad nK nC KI KA CK CD ++ w_X6 G am Mi Ma Mj)) = w_PL G ad kad cad (I') (R') (WI') (WA') (GI') (GA') (LI') (LA') (LJ') nK nC KI KA CK CD ++ w_X6 G am Mi Ma Mj from (List.append_assoc (w_X5 G ad (I') (R') (WI') (WA') (GI') (GA') (LI') (LA') (LJ')) (plT G ad kad cad nK nC KI KA CK CD) (w_X6 G am Mi Ma Mj)).symm)
  refine lv_aload_n hx hb dL_law_209 rfl (lv_at hl 1 rfl) ?_
  refine lv_aload_n hx hb dL_law_210 rfl (lv_at hl 3 rfl) ?_
  refine lv_iload_n hx hb dL_law_211 rfl (lv_at hl 0 rfl) ?_
  refine lv_iconst (v := 1) hx hb dL_law_212 (by decide) ?_
  refine lv_iadd hx hb dL_law_213 ?_
  refine va_sld hx hb hX hbl hbA w.2.2.1 in1 dL_law_214 ?_
  have w0 : WD G (LwA s) (w_PL G ad kad cad (I') (R') (WI') (WA') (GI') (GA') (LI') (LA') (LJ') nK nC KI KA CK CD ++ (w_X6 G am Mi Ma Mj ++ [])) s _ _ := w.eqw (by rw [List.append_nil])
  refine cl_i (wc' := w_X6 G am (Mi') (Ma') (Mj')) w0 (run_V (As := [.int (xs (nI i + 1).toNatClampNeg)]) (rest := [.int r]) C w0 (c_X6_firm l G am _ _ _ _ _ _ _ _ _ e2) mt_X6_firm tt_641 6 rfl rfl rfl rfl ⟨Nat.le_of_ble_eq_true rfl, Nat.le_of_ble_eq_true rfl⟩ hl.1 (Nat.le_of_ble_eq_true rfl) dL_law_215 ⟨by show cells + 0 ≤ 613125; omega, by show slots + 0 ≤ 7262874; omega⟩) (fun H locs w => ?_)
  have w : WD G (LwA s) (w_PL G ad kad cad (I') (R') (WI') (WA') (GI') (GA') (LI') (LA') (LJ') nK nC KI KA CK CD ++ w_X6 G am (Mi') (Ma') (Mj')) s H locs := w.eqw (by rw [List.append_nil])
  refine lv_icmp_eq (tgt := 887) hx hb dL_law_218 (by decide) (fun _ => ?_) (fun z => absurd rfl z)
  refine W.widen (k := cells + 5) (n := slots + 31) (by show cells ≤ cells + 5; omega) (by show slots ≤ slots + 31; omega) ?_
  exact kk _ _ ⟨ad, kad, cad, am, I', R', WI', WA', GI', GA', LI', LA', LJ', nK, nC, KI, KA, CK, CD, Mi', Ma', Mj', rfl, rfl, hR', w⟩
set_option maxHeartbeats 4000000 in
set_option maxRecDepth 100000 in
theorem law_object (C : CX p m meth c s #[.ref b] yL_law code 4 (some .boolean)) (hX : va_X b L xs s s.heap) (hbl : b < s.heap.size) (hi : i + 3 < L) (hL : L ≤ 2048) (hl : lv_has ls 4 [(3, .int (nI i)), (2, .ref q2), (1, .ref q1), (0, .ref b)]) (hce : cells + 5 ≤ 613125) (hsl : slots + 31 ≤ 7262874) (hV : LInv G s q1 q2 H locs) (kk : ∀ (H1 : Heap) (locs1 : List Loc), LInv G s q1 q2 H1 locs1 → W p l e room_1 s m #[.ref b] below meth c H1 locs1 (cells + 5) (slots + 31) Q (F0 m 887 ls [])) : W p l e room_1 s m #[.ref b] below meth c H locs cells slots Q (F0 m 223 ls []) := by
  obtain ⟨ad, kad, cad, am, I, R, WI, WA, GI, GA, LI, LA, LJ, nK, nC, KI, KA, CK, CD, Mi, Ma, Mj, had, ham, hR, w⟩ := hV
  subst had; subst ham
  obtain ⟨hI6, hn4, hI7, hn16, hCK⟩ := Rel_ns hR
  have hx := C.1
  have hb := C.2.1
  have hbA : ¬ LwA s b := Nat.not_le.mpr hbl
  have in1 : vp_in (nI i + 1) L := by rw [xa1]; exact vp_in_nI (by omega) (by omega)
  refine lv_aload_n hx hb dL_law_223 rfl (lv_at hl 2 rfl) ?_
  refine lv_aload_n hx hb dL_law_224 rfl (lv_at hl 3 rfl) ?_
  refine lv_iload_n hx hb dL_law_225 rfl (lv_at hl 0 rfl) ?_
  refine lv_iconst (v := 1) hx hb dL_law_226 (by decide) ?_
  refine lv_iadd hx hb dL_law_227 ?_
  refine va_sld hx hb hX hbl hbA w.2.2.1 in1 dL_law_228 ?_
  obtain ⟨r, I', R', WI', WA', GI', GA', LI', LA', LJ', Mi', Ma', Mj', e1, e2, hR'⟩ := m_object (xs (nI i + 1).toNatClampNeg) hR
  have w0 : WD G (LwA s) ([] ++ (w_X5 G ad I R WI WA GI GA LI LA LJ ++ (plT G ad kad cad nK nC KI KA CK CD ++ w_X6 G am Mi Ma Mj))) s _ _ := w.eqw (show w_PL G ad kad cad I R WI WA GI GA LI LA LJ nK nC KI KA CK CD ++ w_X6 G am Mi Ma Mj = [] ++ (w_X5 G ad I R WI WA GI GA LI LA LJ ++ (plT G ad kad cad nK nC KI KA CK CD ++ w_X6 G am Mi Ma Mj)) from List.append_assoc (w_X5 G ad I R WI WA GI GA LI LA LJ) (plT G ad kad cad nK nC KI KA CK CD) (w_X6 G am Mi Ma Mj))
  refine cl_i (wc' := w_X5 G ad (I') (R') (WI') (WA') (GI') (GA') (LI') (LA') (LJ')) w0 (run_V (As := [.int (xs (nI i + 1).toNatClampNeg)]) (rest := []) C w0 (c_X5_object l G ad _ _ _ _ _ _ _ _ _ _ _ _ _ _ _ _ _ _ _ _ _ e1) mt_X5_object tt_207 5 rfl rfl rfl rfl ⟨Nat.le_of_ble_eq_true rfl, Nat.le_of_ble_eq_true rfl⟩ hl.1 (Nat.le_of_ble_eq_true rfl) dL_law_229 ⟨by show cells + 0 ≤ 613125; omega, by show slots + 0 ≤ 7262874; omega⟩) (fun H locs w => ?_)
  have w : WD G (LwA s) (w_PL G ad kad cad (I') (R') (WI') (WA') (GI') (GA') (LI') (LA') (LJ') nK nC KI KA CK CD ++ w_X6 G am Mi Ma Mj) s H locs := w.eqw (show [] ++ (w_X5 G ad (I') (R') (WI') (WA') (GI') (GA') (LI') (LA') (LJ') ++ (plT G ad kad cad nK nC KI KA CK CD ++ w_X6 G am Mi Ma Mj)) = w_PL G ad kad cad (I') (R') (WI') (WA') (GI') (GA') (LI') (LA') (LJ') nK nC KI KA CK CD ++ w_X6 G am Mi Ma Mj from (List.append_assoc (w_X5 G ad (I') (R') (WI') (WA') (GI') (GA') (LI') (LA') (LJ')) (plT G ad kad cad nK nC KI KA CK CD) (w_X6 G am Mi Ma Mj)).symm)
  refine lv_aload_n hx hb dL_law_232 rfl (lv_at hl 1 rfl) ?_
  refine lv_aload_n hx hb dL_law_233 rfl (lv_at hl 3 rfl) ?_
  refine lv_iload_n hx hb dL_law_234 rfl (lv_at hl 0 rfl) ?_
  refine lv_iconst (v := 1) hx hb dL_law_235 (by decide) ?_
  refine lv_iadd hx hb dL_law_236 ?_
  refine va_sld hx hb hX hbl hbA w.2.2.1 in1 dL_law_237 ?_
  have w0 : WD G (LwA s) (w_PL G ad kad cad (I') (R') (WI') (WA') (GI') (GA') (LI') (LA') (LJ') nK nC KI KA CK CD ++ (w_X6 G am Mi Ma Mj ++ [])) s _ _ := w.eqw (by rw [List.append_nil])
  refine cl_i (wc' := w_X6 G am (Mi') (Ma') (Mj')) w0 (run_V (As := [.int (xs (nI i + 1).toNatClampNeg)]) (rest := [.int r]) C w0 (c_X6_object l G am _ _ _ _ _ _ _ _ _ e2) mt_X6_object tt_645 6 rfl rfl rfl rfl ⟨Nat.le_of_ble_eq_true rfl, Nat.le_of_ble_eq_true rfl⟩ hl.1 (Nat.le_of_ble_eq_true rfl) dL_law_238 ⟨by show cells + 0 ≤ 613125; omega, by show slots + 0 ≤ 7262874; omega⟩) (fun H locs w => ?_)
  have w : WD G (LwA s) (w_PL G ad kad cad (I') (R') (WI') (WA') (GI') (GA') (LI') (LA') (LJ') nK nC KI KA CK CD ++ w_X6 G am (Mi') (Ma') (Mj')) s H locs := w.eqw (by rw [List.append_nil])
  refine lv_icmp_eq (tgt := 887) hx hb dL_law_241 (by decide) (fun _ => ?_) (fun z => absurd rfl z)
  refine W.widen (k := cells + 5) (n := slots + 31) (by show cells ≤ cells + 5; omega) (by show slots ≤ slots + 31; omega) ?_
  exact kk _ _ ⟨ad, kad, cad, am, I', R', WI', WA', GI', GA', LI', LA', LJ', nK, nC, KI, KA, CK, CD, Mi', Ma', Mj', rfl, rfl, hR', w⟩
set_option maxHeartbeats 4000000 in
set_option maxRecDepth 100000 in
theorem law_read (C : CX p m meth c s #[.ref b] yL_law code 4 (some .boolean)) (hX : va_X b L xs s s.heap) (hbl : b < s.heap.size) (hi : i + 3 < L) (hL : L ≤ 2048) (hl : lv_has ls 4 [(3, .int (nI i)), (2, .ref q2), (1, .ref q1), (0, .ref b)]) (hce : cells + 5 ≤ 613125) (hsl : slots + 31 ≤ 7262874) (hV : LInv G s q1 q2 H locs) (kk : ∀ (H1 : Heap) (locs1 : List Loc), LInv G s q1 q2 H1 locs1 → W p l e room_1 s m #[.ref b] below meth c H1 locs1 (cells + 5) (slots + 31) Q (F0 m 887 ls [])) : W p l e room_1 s m #[.ref b] below meth c H locs cells slots Q (F0 m 246 ls []) := by
  obtain ⟨ad, kad, cad, am, I, R, WI, WA, GI, GA, LI, LA, LJ, nK, nC, KI, KA, CK, CD, Mi, Ma, Mj, had, ham, hR, w⟩ := hV
  subst had; subst ham
  obtain ⟨hI6, hn4, hI7, hn16, hCK⟩ := Rel_ns hR
  have hx := C.1
  have hb := C.2.1
  have hbA : ¬ LwA s b := Nat.not_le.mpr hbl
  have in1 : vp_in (nI i + 1) L := by rw [xa1]; exact vp_in_nI (by omega) (by omega)
  have in2 : vp_in (nI i + 2) L := by rw [xa2]; exact vp_in_nI (by omega) (by omega)
  refine lv_aload_n hx hb dL_law_246 rfl (lv_at hl 2 rfl) ?_
  refine lv_aload_n hx hb dL_law_247 rfl (lv_at hl 3 rfl) ?_
  refine lv_iload_n hx hb dL_law_248 rfl (lv_at hl 0 rfl) ?_
  refine lv_iconst (v := 1) hx hb dL_law_249 (by decide) ?_
  refine lv_iadd hx hb dL_law_250 ?_
  refine va_sld hx hb hX hbl hbA w.2.2.1 in1 dL_law_251 ?_
  refine lv_aload_n hx hb dL_law_252 rfl (lv_at hl 3 rfl) ?_
  refine lv_iload_n hx hb dL_law_253 rfl (lv_at hl 0 rfl) ?_
  refine lv_iconst (v := 2) hx hb dL_law_254 (by decide) ?_
  refine lv_iadd hx hb dL_law_255 ?_
  refine va_sld hx hb hX hbl hbA w.2.2.1 in2 dL_law_256 ?_
  obtain ⟨r, I', R', WI', WA', GI', GA', LI', LA', LJ', Mi', Ma', Mj', e1, e2, hR'⟩ := m_read (N := 250) (Nat.le_refl 250) (xs (nI i + 1).toNatClampNeg) (xs (nI i + 2).toNatClampNeg) hR
  have w0 : WD G (LwA s) ([] ++ (w_X5 G ad I R WI WA GI GA LI LA LJ ++ (plT G ad kad cad nK nC KI KA CK CD ++ w_X6 G am Mi Ma Mj))) s _ _ := w.eqw (show w_PL G ad kad cad I R WI WA GI GA LI LA LJ nK nC KI KA CK CD ++ w_X6 G am Mi Ma Mj = [] ++ (w_X5 G ad I R WI WA GI GA LI LA LJ ++ (plT G ad kad cad nK nC KI KA CK CD ++ w_X6 G am Mi Ma Mj)) from List.append_assoc (w_X5 G ad I R WI WA GI GA LI LA LJ) (plT G ad kad cad nK nC KI KA CK CD) (w_X6 G am Mi Ma Mj))
  refine cl_i (wc' := w_X5 G ad (I') (R') (WI') (WA') (GI') (GA') (LI') (LA') (LJ')) w0 (run_V (As := [.int (xs (nI i + 1).toNatClampNeg), .int (xs (nI i + 2).toNatClampNeg)]) (rest := []) C w0 (c_X5_read l G ad _ _ _ _ _ _ _ _ _ _ _ _ _ _ _ _ _ _ _ _ _ _ _ e1) mt_X5_read tt_220 5 rfl rfl rfl rfl ⟨Nat.le_of_ble_eq_true rfl, Nat.le_of_ble_eq_true rfl⟩ hl.1 (Nat.le_of_ble_eq_true rfl) dL_law_257 ⟨by show cells + 0 ≤ 613125; omega, by show slots + 0 ≤ 7262874; omega⟩) (fun H locs w => ?_)
  have w : WD G (LwA s) (w_PL G ad kad cad (I') (R') (WI') (WA') (GI') (GA') (LI') (LA') (LJ') nK nC KI KA CK CD ++ w_X6 G am Mi Ma Mj) s H locs := w.eqw (show [] ++ (w_X5 G ad (I') (R') (WI') (WA') (GI') (GA') (LI') (LA') (LJ') ++ (plT G ad kad cad nK nC KI KA CK CD ++ w_X6 G am Mi Ma Mj)) = w_PL G ad kad cad (I') (R') (WI') (WA') (GI') (GA') (LI') (LA') (LJ') nK nC KI KA CK CD ++ w_X6 G am Mi Ma Mj from (List.append_assoc (w_X5 G ad (I') (R') (WI') (WA') (GI') (GA') (LI') (LA') (LJ')) (plT G ad kad cad nK nC KI KA CK CD) (w_X6 G am Mi Ma Mj)).symm)
  refine lv_aload_n hx hb dL_law_260 rfl (lv_at hl 1 rfl) ?_
  refine lv_aload_n hx hb dL_law_261 rfl (lv_at hl 3 rfl) ?_
  refine lv_iload_n hx hb dL_law_262 rfl (lv_at hl 0 rfl) ?_
  refine lv_iconst (v := 1) hx hb dL_law_263 (by decide) ?_
  refine lv_iadd hx hb dL_law_264 ?_
  refine va_sld hx hb hX hbl hbA w.2.2.1 in1 dL_law_265 ?_
  refine lv_aload_n hx hb dL_law_266 rfl (lv_at hl 3 rfl) ?_
  refine lv_iload_n hx hb dL_law_267 rfl (lv_at hl 0 rfl) ?_
  refine lv_iconst (v := 2) hx hb dL_law_268 (by decide) ?_
  refine lv_iadd hx hb dL_law_269 ?_
  refine va_sld hx hb hX hbl hbA w.2.2.1 in2 dL_law_270 ?_
  have w0 : WD G (LwA s) (w_PL G ad kad cad (I') (R') (WI') (WA') (GI') (GA') (LI') (LA') (LJ') nK nC KI KA CK CD ++ (w_X6 G am Mi Ma Mj ++ [])) s _ _ := w.eqw (by rw [List.append_nil])
  refine cl_i (wc' := w_X6 G am (Mi') (Ma') (Mj')) w0 (run_V (As := [.int (xs (nI i + 1).toNatClampNeg), .int (xs (nI i + 2).toNatClampNeg)]) (rest := [.int r]) C w0 (c_X6_read l G am _ _ _ _ _ _ _ _ _ _ _ e2) mt_X6_read tt_649 6 rfl rfl rfl rfl ⟨Nat.le_of_ble_eq_true rfl, Nat.le_of_ble_eq_true rfl⟩ hl.1 (Nat.le_of_ble_eq_true rfl) dL_law_271 ⟨by show cells + 0 ≤ 613125; omega, by show slots + 0 ≤ 7262874; omega⟩) (fun H locs w => ?_)
  have w : WD G (LwA s) (w_PL G ad kad cad (I') (R') (WI') (WA') (GI') (GA') (LI') (LA') (LJ') nK nC KI KA CK CD ++ w_X6 G am (Mi') (Ma') (Mj')) s H locs := w.eqw (by rw [List.append_nil])
  refine lv_icmp_eq (tgt := 887) hx hb dL_law_274 (by decide) (fun _ => ?_) (fun z => absurd rfl z)
  refine W.widen (k := cells + 5) (n := slots + 31) (by show cells ≤ cells + 5; omega) (by show slots ≤ slots + 31; omega) ?_
  exact kk _ _ ⟨ad, kad, cad, am, I', R', WI', WA', GI', GA', LI', LA', LJ', nK, nC, KI, KA, CK, CD, Mi', Ma', Mj', rfl, rfl, hR', w⟩
set_option maxHeartbeats 4000000 in
set_option maxRecDepth 100000 in
theorem law_write (C : CX p m meth c s #[.ref b] yL_law code 4 (some .boolean)) (hX : va_X b L xs s s.heap) (hbl : b < s.heap.size) (hi : i + 3 < L) (hL : L ≤ 2048) (hl : lv_has ls 4 [(3, .int (nI i)), (2, .ref q2), (1, .ref q1), (0, .ref b)]) (hce : cells + 5 ≤ 613125) (hsl : slots + 31 ≤ 7262874) (hV : LInv G s q1 q2 H locs) (kk : ∀ (H1 : Heap) (locs1 : List Loc), LInv G s q1 q2 H1 locs1 → W p l e room_1 s m #[.ref b] below meth c H1 locs1 (cells + 5) (slots + 31) Q (F0 m 887 ls [])) : W p l e room_1 s m #[.ref b] below meth c H locs cells slots Q (F0 m 279 ls []) := by
  obtain ⟨ad, kad, cad, am, I, R, WI, WA, GI, GA, LI, LA, LJ, nK, nC, KI, KA, CK, CD, Mi, Ma, Mj, had, ham, hR, w⟩ := hV
  subst had; subst ham
  obtain ⟨hI6, hn4, hI7, hn16, hCK⟩ := Rel_ns hR
  have hx := C.1
  have hb := C.2.1
  have hbA : ¬ LwA s b := Nat.not_le.mpr hbl
  have in1 : vp_in (nI i + 1) L := by rw [xa1]; exact vp_in_nI (by omega) (by omega)
  have in2 : vp_in (nI i + 2) L := by rw [xa2]; exact vp_in_nI (by omega) (by omega)
  refine lv_aload_n hx hb dL_law_279 rfl (lv_at hl 2 rfl) ?_
  refine lv_aload_n hx hb dL_law_280 rfl (lv_at hl 3 rfl) ?_
  refine lv_iload_n hx hb dL_law_281 rfl (lv_at hl 0 rfl) ?_
  refine lv_iconst (v := 1) hx hb dL_law_282 (by decide) ?_
  refine lv_iadd hx hb dL_law_283 ?_
  refine va_sld hx hb hX hbl hbA w.2.2.1 in1 dL_law_284 ?_
  refine lv_aload_n hx hb dL_law_285 rfl (lv_at hl 3 rfl) ?_
  refine lv_iload_n hx hb dL_law_286 rfl (lv_at hl 0 rfl) ?_
  refine lv_iconst (v := 2) hx hb dL_law_287 (by decide) ?_
  refine lv_iadd hx hb dL_law_288 ?_
  refine va_sld hx hb hX hbl hbA w.2.2.1 in2 dL_law_289 ?_
  obtain ⟨r, I', R', WI', WA', GI', GA', LI', LA', LJ', Mi', Ma', Mj', e1, e2, hR'⟩ := m_write (N := 250) (Nat.le_refl 250) (xs (nI i + 1).toNatClampNeg) (xs (nI i + 2).toNatClampNeg) hR
  have w0 : WD G (LwA s) ([] ++ (w_X5 G ad I R WI WA GI GA LI LA LJ ++ (plT G ad kad cad nK nC KI KA CK CD ++ w_X6 G am Mi Ma Mj))) s _ _ := w.eqw (show w_PL G ad kad cad I R WI WA GI GA LI LA LJ nK nC KI KA CK CD ++ w_X6 G am Mi Ma Mj = [] ++ (w_X5 G ad I R WI WA GI GA LI LA LJ ++ (plT G ad kad cad nK nC KI KA CK CD ++ w_X6 G am Mi Ma Mj)) from List.append_assoc (w_X5 G ad I R WI WA GI GA LI LA LJ) (plT G ad kad cad nK nC KI KA CK CD) (w_X6 G am Mi Ma Mj))
  refine cl_i (wc' := w_X5 G ad (I') (R') (WI') (WA') (GI') (GA') (LI') (LA') (LJ')) w0 (run_V (As := [.int (xs (nI i + 1).toNatClampNeg), .int (xs (nI i + 2).toNatClampNeg)]) (rest := []) C w0 (c_X5_write l G ad _ _ _ _ _ _ _ _ _ _ _ _ _ _ _ _ _ _ _ _ _ _ _ e1) mt_X5_write tt_281 5 rfl rfl rfl rfl ⟨Nat.le_of_ble_eq_true rfl, Nat.le_of_ble_eq_true rfl⟩ hl.1 (Nat.le_of_ble_eq_true rfl) dL_law_290 ⟨by show cells + 0 ≤ 613125; omega, by show slots + 0 ≤ 7262874; omega⟩) (fun H locs w => ?_)
  have w : WD G (LwA s) (w_PL G ad kad cad (I') (R') (WI') (WA') (GI') (GA') (LI') (LA') (LJ') nK nC KI KA CK CD ++ w_X6 G am Mi Ma Mj) s H locs := w.eqw (show [] ++ (w_X5 G ad (I') (R') (WI') (WA') (GI') (GA') (LI') (LA') (LJ') ++ (plT G ad kad cad nK nC KI KA CK CD ++ w_X6 G am Mi Ma Mj)) = w_PL G ad kad cad (I') (R') (WI') (WA') (GI') (GA') (LI') (LA') (LJ') nK nC KI KA CK CD ++ w_X6 G am Mi Ma Mj from (List.append_assoc (w_X5 G ad (I') (R') (WI') (WA') (GI') (GA') (LI') (LA') (LJ')) (plT G ad kad cad nK nC KI KA CK CD) (w_X6 G am Mi Ma Mj)).symm)
  refine lv_aload_n hx hb dL_law_293 rfl (lv_at hl 1 rfl) ?_
  refine lv_aload_n hx hb dL_law_294 rfl (lv_at hl 3 rfl) ?_
  refine lv_iload_n hx hb dL_law_295 rfl (lv_at hl 0 rfl) ?_
  refine lv_iconst (v := 1) hx hb dL_law_296 (by decide) ?_
  refine lv_iadd hx hb dL_law_297 ?_
  refine va_sld hx hb hX hbl hbA w.2.2.1 in1 dL_law_298 ?_
  refine lv_aload_n hx hb dL_law_299 rfl (lv_at hl 3 rfl) ?_
  refine lv_iload_n hx hb dL_law_300 rfl (lv_at hl 0 rfl) ?_
  refine lv_iconst (v := 2) hx hb dL_law_301 (by decide) ?_
  refine lv_iadd hx hb dL_law_302 ?_
  refine va_sld hx hb hX hbl hbA w.2.2.1 in2 dL_law_303 ?_
  have w0 : WD G (LwA s) (w_PL G ad kad cad (I') (R') (WI') (WA') (GI') (GA') (LI') (LA') (LJ') nK nC KI KA CK CD ++ (w_X6 G am Mi Ma Mj ++ [])) s _ _ := w.eqw (by rw [List.append_nil])
  refine cl_i (wc' := w_X6 G am (Mi') (Ma') (Mj')) w0 (run_V (As := [.int (xs (nI i + 1).toNatClampNeg), .int (xs (nI i + 2).toNatClampNeg)]) (rest := [.int r]) C w0 (c_X6_write l G am _ _ _ _ _ _ _ _ _ _ _ e2) mt_X6_write tt_683 6 rfl rfl rfl rfl ⟨Nat.le_of_ble_eq_true rfl, Nat.le_of_ble_eq_true rfl⟩ hl.1 (Nat.le_of_ble_eq_true rfl) dL_law_304 ⟨by show cells + 0 ≤ 613125; omega, by show slots + 0 ≤ 7262874; omega⟩) (fun H locs w => ?_)
  have w : WD G (LwA s) (w_PL G ad kad cad (I') (R') (WI') (WA') (GI') (GA') (LI') (LA') (LJ') nK nC KI KA CK CD ++ w_X6 G am (Mi') (Ma') (Mj')) s H locs := w.eqw (by rw [List.append_nil])
  refine lv_icmp_eq (tgt := 887) hx hb dL_law_307 (by decide) (fun _ => ?_) (fun z => absurd rfl z)
  refine W.widen (k := cells + 5) (n := slots + 31) (by show cells ≤ cells + 5; omega) (by show slots ≤ slots + 31; omega) ?_
  exact kk _ _ ⟨ad, kad, cad, am, I', R', WI', WA', GI', GA', LI', LA', LJ', nK, nC, KI, KA, CK, CD, Mi', Ma', Mj', rfl, rfl, hR', w⟩
set_option maxHeartbeats 4000000 in
set_option maxRecDepth 100000 in
theorem law_glass (C : CX p m meth c s #[.ref b] yL_law code 4 (some .boolean)) (hX : va_X b L xs s s.heap) (hbl : b < s.heap.size) (hi : i + 3 < L) (hL : L ≤ 2048) (hl : lv_has ls 4 [(3, .int (nI i)), (2, .ref q2), (1, .ref q1), (0, .ref b)]) (hce : cells + 5 ≤ 613125) (hsl : slots + 31 ≤ 7262874) (hV : LInv G s q1 q2 H locs) (kk : ∀ (H1 : Heap) (locs1 : List Loc), LInv G s q1 q2 H1 locs1 → W p l e room_1 s m #[.ref b] below meth c H1 locs1 (cells + 5) (slots + 31) Q (F0 m 887 ls [])) : W p l e room_1 s m #[.ref b] below meth c H locs cells slots Q (F0 m 312 ls []) := by
  obtain ⟨ad, kad, cad, am, I, R, WI, WA, GI, GA, LI, LA, LJ, nK, nC, KI, KA, CK, CD, Mi, Ma, Mj, had, ham, hR, w⟩ := hV
  subst had; subst ham
  obtain ⟨hI6, hn4, hI7, hn16, hCK⟩ := Rel_ns hR
  have hx := C.1
  have hb := C.2.1
  have hbA : ¬ LwA s b := Nat.not_le.mpr hbl
  have in1 : vp_in (nI i + 1) L := by rw [xa1]; exact vp_in_nI (by omega) (by omega)
  have in2 : vp_in (nI i + 2) L := by rw [xa2]; exact vp_in_nI (by omega) (by omega)
  have in3 : vp_in (nI i + 3) L := by rw [xa3]; exact vp_in_nI (by omega) (by omega)
  refine lv_aload_n hx hb dL_law_312 rfl (lv_at hl 2 rfl) ?_
  refine lv_aload_n hx hb dL_law_313 rfl (lv_at hl 3 rfl) ?_
  refine lv_iload_n hx hb dL_law_314 rfl (lv_at hl 0 rfl) ?_
  refine lv_iconst (v := 1) hx hb dL_law_315 (by decide) ?_
  refine lv_iadd hx hb dL_law_316 ?_
  refine va_sld hx hb hX hbl hbA w.2.2.1 in1 dL_law_317 ?_
  refine lv_aload_n hx hb dL_law_318 rfl (lv_at hl 3 rfl) ?_
  refine lv_iload_n hx hb dL_law_319 rfl (lv_at hl 0 rfl) ?_
  refine lv_iconst (v := 2) hx hb dL_law_320 (by decide) ?_
  refine lv_iadd hx hb dL_law_321 ?_
  refine va_sld hx hb hX hbl hbA w.2.2.1 in2 dL_law_322 ?_
  refine lv_aload_n hx hb dL_law_323 rfl (lv_at hl 3 rfl) ?_
  refine lv_iload_n hx hb dL_law_324 rfl (lv_at hl 0 rfl) ?_
  refine lv_iconst (v := 3) hx hb dL_law_325 (by decide) ?_
  refine lv_iadd hx hb dL_law_326 ?_
  refine va_sld hx hb hX hbl hbA w.2.2.1 in3 dL_law_327 ?_
  obtain ⟨r, I', R', WI', WA', GI', GA', LI', LA', LJ', Mi', Ma', Mj', e1, e2, hR'⟩ := m_glass (N := 250) (Nat.le_refl 250) (xs (nI i + 1).toNatClampNeg) (xs (nI i + 2).toNatClampNeg) (xs (nI i + 3).toNatClampNeg) hR
  have w0 : WD G (LwA s) ([] ++ (w_X5 G ad I R WI WA GI GA LI LA LJ ++ (plT G ad kad cad nK nC KI KA CK CD ++ w_X6 G am Mi Ma Mj))) s _ _ := w.eqw (show w_PL G ad kad cad I R WI WA GI GA LI LA LJ nK nC KI KA CK CD ++ w_X6 G am Mi Ma Mj = [] ++ (w_X5 G ad I R WI WA GI GA LI LA LJ ++ (plT G ad kad cad nK nC KI KA CK CD ++ w_X6 G am Mi Ma Mj)) from List.append_assoc (w_X5 G ad I R WI WA GI GA LI LA LJ) (plT G ad kad cad nK nC KI KA CK CD) (w_X6 G am Mi Ma Mj))
  refine cl_i (wc' := w_X5 G ad (I') (R') (WI') (WA') (GI') (GA') (LI') (LA') (LJ')) w0 (run_V (As := [.int (xs (nI i + 1).toNatClampNeg), .int (xs (nI i + 2).toNatClampNeg), .int (xs (nI i + 3).toNatClampNeg)]) (rest := []) C w0 (c_X5_glass l G ad _ _ _ _ _ _ _ _ _ _ _ _ _ _ _ _ _ _ _ _ _ _ _ _ e1) mt_X5_glass tt_285 5 rfl rfl rfl rfl ⟨Nat.le_of_ble_eq_true rfl, Nat.le_of_ble_eq_true rfl⟩ hl.1 (Nat.le_of_ble_eq_true rfl) dL_law_328 ⟨by show cells + 0 ≤ 613125; omega, by show slots + 0 ≤ 7262874; omega⟩) (fun H locs w => ?_)
  have w : WD G (LwA s) (w_PL G ad kad cad (I') (R') (WI') (WA') (GI') (GA') (LI') (LA') (LJ') nK nC KI KA CK CD ++ w_X6 G am Mi Ma Mj) s H locs := w.eqw (show [] ++ (w_X5 G ad (I') (R') (WI') (WA') (GI') (GA') (LI') (LA') (LJ') ++ (plT G ad kad cad nK nC KI KA CK CD ++ w_X6 G am Mi Ma Mj)) = w_PL G ad kad cad (I') (R') (WI') (WA') (GI') (GA') (LI') (LA') (LJ') nK nC KI KA CK CD ++ w_X6 G am Mi Ma Mj from (List.append_assoc (w_X5 G ad (I') (R') (WI') (WA') (GI') (GA') (LI') (LA') (LJ')) (plT G ad kad cad nK nC KI KA CK CD) (w_X6 G am Mi Ma Mj)).symm)
  refine lv_aload_n hx hb dL_law_331 rfl (lv_at hl 1 rfl) ?_
  refine lv_aload_n hx hb dL_law_332 rfl (lv_at hl 3 rfl) ?_
  refine lv_iload_n hx hb dL_law_333 rfl (lv_at hl 0 rfl) ?_
  refine lv_iconst (v := 1) hx hb dL_law_334 (by decide) ?_
  refine lv_iadd hx hb dL_law_335 ?_
  refine va_sld hx hb hX hbl hbA w.2.2.1 in1 dL_law_336 ?_
  refine lv_aload_n hx hb dL_law_337 rfl (lv_at hl 3 rfl) ?_
  refine lv_iload_n hx hb dL_law_338 rfl (lv_at hl 0 rfl) ?_
  refine lv_iconst (v := 2) hx hb dL_law_339 (by decide) ?_
  refine lv_iadd hx hb dL_law_340 ?_
  refine va_sld hx hb hX hbl hbA w.2.2.1 in2 dL_law_341 ?_
  refine lv_aload_n hx hb dL_law_342 rfl (lv_at hl 3 rfl) ?_
  refine lv_iload_n hx hb dL_law_343 rfl (lv_at hl 0 rfl) ?_
  refine lv_iconst (v := 3) hx hb dL_law_344 (by decide) ?_
  refine lv_iadd hx hb dL_law_345 ?_
  refine va_sld hx hb hX hbl hbA w.2.2.1 in3 dL_law_346 ?_
  have w0 : WD G (LwA s) (w_PL G ad kad cad (I') (R') (WI') (WA') (GI') (GA') (LI') (LA') (LJ') nK nC KI KA CK CD ++ (w_X6 G am Mi Ma Mj ++ [])) s _ _ := w.eqw (by rw [List.append_nil])
  refine cl_i (wc' := w_X6 G am (Mi') (Ma') (Mj')) w0 (run_V (As := [.int (xs (nI i + 1).toNatClampNeg), .int (xs (nI i + 2).toNatClampNeg), .int (xs (nI i + 3).toNatClampNeg)]) (rest := [.int r]) C w0 (c_X6_glass l G am _ _ _ _ _ _ _ _ _ _ _ _ e2) mt_X6_glass tt_687 6 rfl rfl rfl rfl ⟨Nat.le_of_ble_eq_true rfl, Nat.le_of_ble_eq_true rfl⟩ hl.1 (Nat.le_of_ble_eq_true rfl) dL_law_347 ⟨by show cells + 0 ≤ 613125; omega, by show slots + 0 ≤ 7262874; omega⟩) (fun H locs w => ?_)
  have w : WD G (LwA s) (w_PL G ad kad cad (I') (R') (WI') (WA') (GI') (GA') (LI') (LA') (LJ') nK nC KI KA CK CD ++ w_X6 G am (Mi') (Ma') (Mj')) s H locs := w.eqw (by rw [List.append_nil])
  refine lv_icmp_eq (tgt := 887) hx hb dL_law_350 (by decide) (fun _ => ?_) (fun z => absurd rfl z)
  refine W.widen (k := cells + 5) (n := slots + 31) (by show cells ≤ cells + 5; omega) (by show slots ≤ slots + 31; omega) ?_
  exact kk _ _ ⟨ad, kad, cad, am, I', R', WI', WA', GI', GA', LI', LA', LJ', nK, nC, KI, KA, CK, CD, Mi', Ma', Mj', rfl, rfl, hR', w⟩
set_option maxHeartbeats 4000000 in
set_option maxRecDepth 100000 in
theorem law_takeOff (C : CX p m meth c s #[.ref b] yL_law code 4 (some .boolean)) (hX : va_X b L xs s s.heap) (hbl : b < s.heap.size) (hi : i + 3 < L) (hL : L ≤ 2048) (hl : lv_has ls 4 [(3, .int (nI i)), (2, .ref q2), (1, .ref q1), (0, .ref b)]) (hce : cells + 5 ≤ 613125) (hsl : slots + 31 ≤ 7262874) (hV : LInv G s q1 q2 H locs) (kk : ∀ (H1 : Heap) (locs1 : List Loc), LInv G s q1 q2 H1 locs1 → W p l e room_1 s m #[.ref b] below meth c H1 locs1 (cells + 5) (slots + 31) Q (F0 m 887 ls [])) : W p l e room_1 s m #[.ref b] below meth c H locs cells slots Q (F0 m 355 ls []) := by
  obtain ⟨ad, kad, cad, am, I, R, WI, WA, GI, GA, LI, LA, LJ, nK, nC, KI, KA, CK, CD, Mi, Ma, Mj, had, ham, hR, w⟩ := hV
  subst had; subst ham
  obtain ⟨hI6, hn4, hI7, hn16, hCK⟩ := Rel_ns hR
  have hx := C.1
  have hb := C.2.1
  have hbA : ¬ LwA s b := Nat.not_le.mpr hbl
  have in1 : vp_in (nI i + 1) L := by rw [xa1]; exact vp_in_nI (by omega) (by omega)
  have in2 : vp_in (nI i + 2) L := by rw [xa2]; exact vp_in_nI (by omega) (by omega)
  refine lv_aload_n hx hb dL_law_355 rfl (lv_at hl 2 rfl) ?_
  refine lv_aload_n hx hb dL_law_356 rfl (lv_at hl 3 rfl) ?_
  refine lv_iload_n hx hb dL_law_357 rfl (lv_at hl 0 rfl) ?_
  refine lv_iconst (v := 1) hx hb dL_law_358 (by decide) ?_
  refine lv_iadd hx hb dL_law_359 ?_
  refine va_sld hx hb hX hbl hbA w.2.2.1 in1 dL_law_360 ?_
  refine lv_aload_n hx hb dL_law_361 rfl (lv_at hl 3 rfl) ?_
  refine lv_iload_n hx hb dL_law_362 rfl (lv_at hl 0 rfl) ?_
  refine lv_iconst (v := 2) hx hb dL_law_363 (by decide) ?_
  refine lv_iadd hx hb dL_law_364 ?_
  refine va_sld hx hb hX hbl hbA w.2.2.1 in2 dL_law_365 ?_
  obtain ⟨r, I', R', WI', WA', GI', GA', LI', LA', LJ', Mi', Ma', Mj', e1, e2, hR'⟩ := m_takeOff (N := 250) (Nat.le_refl 250) (xs (nI i + 1).toNatClampNeg) (xs (nI i + 2).toNatClampNeg) hR
  have w0 : WD G (LwA s) ([] ++ (w_X5 G ad I R WI WA GI GA LI LA LJ ++ (plT G ad kad cad nK nC KI KA CK CD ++ w_X6 G am Mi Ma Mj))) s _ _ := w.eqw (show w_PL G ad kad cad I R WI WA GI GA LI LA LJ nK nC KI KA CK CD ++ w_X6 G am Mi Ma Mj = [] ++ (w_X5 G ad I R WI WA GI GA LI LA LJ ++ (plT G ad kad cad nK nC KI KA CK CD ++ w_X6 G am Mi Ma Mj)) from List.append_assoc (w_X5 G ad I R WI WA GI GA LI LA LJ) (plT G ad kad cad nK nC KI KA CK CD) (w_X6 G am Mi Ma Mj))
  refine cl_i (wc' := w_X5 G ad (I') (R') (WI') (WA') (GI') (GA') (LI') (LA') (LJ')) w0 (run_V (As := [.int (xs (nI i + 1).toNatClampNeg), .int (xs (nI i + 2).toNatClampNeg)]) (rest := []) C w0 (c_X5_takeOff l G ad _ _ _ _ _ _ _ _ _ _ _ _ _ _ _ _ _ _ _ _ _ _ _ e1) mt_X5_takeOff tt_310 5 rfl rfl rfl rfl ⟨Nat.le_of_ble_eq_true rfl, Nat.le_of_ble_eq_true rfl⟩ hl.1 (Nat.le_of_ble_eq_true rfl) dL_law_366 ⟨by show cells + 0 ≤ 613125; omega, by show slots + 0 ≤ 7262874; omega⟩) (fun H locs w => ?_)
  have w : WD G (LwA s) (w_PL G ad kad cad (I') (R') (WI') (WA') (GI') (GA') (LI') (LA') (LJ') nK nC KI KA CK CD ++ w_X6 G am Mi Ma Mj) s H locs := w.eqw (show [] ++ (w_X5 G ad (I') (R') (WI') (WA') (GI') (GA') (LI') (LA') (LJ') ++ (plT G ad kad cad nK nC KI KA CK CD ++ w_X6 G am Mi Ma Mj)) = w_PL G ad kad cad (I') (R') (WI') (WA') (GI') (GA') (LI') (LA') (LJ') nK nC KI KA CK CD ++ w_X6 G am Mi Ma Mj from (List.append_assoc (w_X5 G ad (I') (R') (WI') (WA') (GI') (GA') (LI') (LA') (LJ')) (plT G ad kad cad nK nC KI KA CK CD) (w_X6 G am Mi Ma Mj)).symm)
  refine lv_aload_n hx hb dL_law_369 rfl (lv_at hl 1 rfl) ?_
  refine lv_aload_n hx hb dL_law_370 rfl (lv_at hl 3 rfl) ?_
  refine lv_iload_n hx hb dL_law_371 rfl (lv_at hl 0 rfl) ?_
  refine lv_iconst (v := 1) hx hb dL_law_372 (by decide) ?_
  refine lv_iadd hx hb dL_law_373 ?_
  refine va_sld hx hb hX hbl hbA w.2.2.1 in1 dL_law_374 ?_
  refine lv_aload_n hx hb dL_law_375 rfl (lv_at hl 3 rfl) ?_
  refine lv_iload_n hx hb dL_law_376 rfl (lv_at hl 0 rfl) ?_
  refine lv_iconst (v := 2) hx hb dL_law_377 (by decide) ?_
  refine lv_iadd hx hb dL_law_378 ?_
  refine va_sld hx hb hX hbl hbA w.2.2.1 in2 dL_law_379 ?_
  have w0 : WD G (LwA s) (w_PL G ad kad cad (I') (R') (WI') (WA') (GI') (GA') (LI') (LA') (LJ') nK nC KI KA CK CD ++ (w_X6 G am Mi Ma Mj ++ [])) s _ _ := w.eqw (by rw [List.append_nil])
  refine cl_i (wc' := w_X6 G am (Mi') (Ma') (Mj')) w0 (run_V (As := [.int (xs (nI i + 1).toNatClampNeg), .int (xs (nI i + 2).toNatClampNeg)]) (rest := [.int r]) C w0 (c_X6_takeOff l G am _ _ _ _ _ _ _ _ _ _ _ e2) mt_X6_takeOff tt_699 6 rfl rfl rfl rfl ⟨Nat.le_of_ble_eq_true rfl, Nat.le_of_ble_eq_true rfl⟩ hl.1 (Nat.le_of_ble_eq_true rfl) dL_law_380 ⟨by show cells + 0 ≤ 613125; omega, by show slots + 0 ≤ 7262874; omega⟩) (fun H locs w => ?_)
  have w : WD G (LwA s) (w_PL G ad kad cad (I') (R') (WI') (WA') (GI') (GA') (LI') (LA') (LJ') nK nC KI KA CK CD ++ w_X6 G am (Mi') (Ma') (Mj')) s H locs := w.eqw (by rw [List.append_nil])
  refine lv_icmp_eq (tgt := 887) hx hb dL_law_383 (by decide) (fun _ => ?_) (fun z => absurd rfl z)
  refine W.widen (k := cells + 5) (n := slots + 31) (by show cells ≤ cells + 5; omega) (by show slots ≤ slots + 31; omega) ?_
  exact kk _ _ ⟨ad, kad, cad, am, I', R', WI', WA', GI', GA', LI', LA', LJ', nK, nC, KI, KA, CK, CD, Mi', Ma', Mj', rfl, rfl, hR', w⟩
set_option maxHeartbeats 4000000 in
set_option maxRecDepth 100000 in
theorem law_kind (C : CX p m meth c s #[.ref b] yL_law code 4 (some .boolean)) (hX : va_X b L xs s s.heap) (hbl : b < s.heap.size) (hi : i + 3 < L) (hL : L ≤ 2048) (hl : lv_has ls 4 [(3, .int (nI i)), (2, .ref q2), (1, .ref q1), (0, .ref b)]) (hce : cells + 5 ≤ 613125) (hsl : slots + 31 ≤ 7262874) (hV : LInv G s q1 q2 H locs) (kk : ∀ (H1 : Heap) (locs1 : List Loc), LInv G s q1 q2 H1 locs1 → W p l e room_1 s m #[.ref b] below meth c H1 locs1 (cells + 5) (slots + 31) Q (F0 m 887 ls [])) : W p l e room_1 s m #[.ref b] below meth c H locs cells slots Q (F0 m 388 ls []) := by
  obtain ⟨ad, kad, cad, am, I, R, WI, WA, GI, GA, LI, LA, LJ, nK, nC, KI, KA, CK, CD, Mi, Ma, Mj, had, ham, hR, w⟩ := hV
  subst had; subst ham
  obtain ⟨hI6, hn4, hI7, hn16, hCK⟩ := Rel_ns hR
  have hx := C.1
  have hb := C.2.1
  have hbA : ¬ LwA s b := Nat.not_le.mpr hbl
  refine lv_aload_n hx hb dL_law_388 rfl (lv_at hl 2 rfl) ?_
  by_cases hn : nK < 4
  · obtain ⟨Mi', Ma', e2, hR'⟩ := m_kind_new hR hn
    have w0 : WD G (LwA s) ([] ++ (w_PL G ad kad cad I R WI WA GI GA LI LA LJ nK nC KI KA CK CD ++ w_X6 G am Mi Ma Mj)) s _ _ := w
    refine cl_e w0 (run_V (As := []) (rest := []) C w0 (c_X5_kind_new l G ad kad cad _ _ _ _ _ _ _ _ _ _ _ _ _ _ _ _ hI6 hn hCK) mt_X5_kind tt_324 5 rfl rfl rfl rfl ⟨Nat.le_of_ble_eq_true rfl, Nat.le_of_ble_eq_true rfl⟩ hl.1 (Nat.le_of_ble_eq_true rfl) dL_law_389 ⟨hce, hsl⟩) (fun kad' H locs _ w => ?_)
    have w : WD G (LwA s) (w_PL G ad kad' cad (upd I 6 (I 6 + 1)) R WI WA GI GA LI LA LJ (nK + 1) nC (uN KI nK (upd (fun _ => 0) 5 6)) (uN KA nK (fun _ _ => 0)) CK CD ++ w_X6 G am Mi Ma Mj) s H locs := w
    refine lv_aload_n hx hb dL_law_392 rfl (lv_at hl 1 rfl) ?_
    have w0 : WD G (LwA s) (w_PL G ad kad' cad (upd I 6 (I 6 + 1)) R WI WA GI GA LI LA LJ (nK + 1) nC (uN KI nK (upd (fun _ => 0) 5 6)) (uN KA nK (fun _ _ => 0)) CK CD ++ (w_X6 G am Mi Ma Mj ++ [])) s _ _ := w.eqw (by rw [List.append_nil])
    refine cl_i (wc' := w_X6 G am (Mi') (Ma') Mj) w0 (run_V (As := []) (rest := [.int ((upd I 6 (I 6 + 1)) 6 - 1)]) C w0 (c_X6_kind l G am _ _ _ _ _ _ _ _ e2) mt_X6_kind tt_704 6 rfl rfl rfl rfl ⟨Nat.le_of_ble_eq_true rfl, Nat.le_of_ble_eq_true rfl⟩ hl.1 (Nat.le_of_ble_eq_true rfl) dL_law_393 ⟨by show cells + 5 + 0 ≤ 613125; omega, by show slots + 31 + 0 ≤ 7262874; omega⟩) (fun H locs w => ?_)
    have w : WD G (LwA s) (w_PL G ad kad' cad (upd I 6 (I 6 + 1)) R WI WA GI GA LI LA LJ (nK + 1) nC (uN KI nK (upd (fun _ => 0) 5 6)) (uN KA nK (fun _ _ => 0)) CK CD ++ w_X6 G am (Mi') (Ma') Mj) s H locs := w.eqw (by rw [List.append_nil])
    refine lv_icmp_eq (tgt := 887) hx hb dL_law_396 (by decide) (fun _ => ?_) (fun z => absurd rfl z)
    refine W.widen (k := cells + 5) (n := slots + 31) (by show cells + 5 ≤ cells + 5; omega) (by show slots + 31 ≤ slots + 31; omega) ?_
    exact kk _ _ ⟨ad, kad', cad, am, (upd I 6 (I 6 + 1)), R, WI, WA, GI, GA, LI, LA, LJ, (nK + 1), nC, (uN KI nK (upd (fun _ => 0) 5 6)), (uN KA nK (fun _ _ => 0)), CK, CD, Mi', Ma', Mj, rfl, rfl, hR', w⟩
  · obtain ⟨f1, e2⟩ := m_kind_full hR hn
    have w0 : WD G (LwA s) ([] ++ (w_PL G ad kad cad I R WI WA GI GA LI LA LJ nK nC KI KA CK CD ++ w_X6 G am Mi Ma Mj)) s _ _ := w
    refine cl_e w0 (run_V (As := []) (rest := []) C w0 (c_X5_kind_full l G ad kad cad _ _ _ _ _ _ _ _ _ _ _ _ _ _ _ _ f1) mt_X5_kind tt_324 5 rfl rfl rfl rfl ⟨Nat.le_of_ble_eq_true rfl, Nat.le_of_ble_eq_true rfl⟩ hl.1 (Nat.le_of_ble_eq_true rfl) dL_law_389 ⟨hce, hsl⟩) (fun _ H locs _ w => ?_)
    have w : WD G (LwA s) (w_PL G ad kad cad I R WI WA GI GA LI LA LJ nK nC KI KA CK CD ++ w_X6 G am Mi Ma Mj) s H locs := w
    refine lv_aload_n hx hb dL_law_392 rfl (lv_at hl 1 rfl) ?_
    have w0 : WD G (LwA s) (w_PL G ad kad cad I R WI WA GI GA LI LA LJ nK nC KI KA CK CD ++ (w_X6 G am Mi Ma Mj ++ [])) s _ _ := w.eqw (by rw [List.append_nil])
    refine cl_i (wc' := w_X6 G am Mi Ma Mj) w0 (run_V (As := []) (rest := [.int (-3)]) C w0 (c_X6_kind l G am _ _ _ _ _ _ _ _ e2) mt_X6_kind tt_704 6 rfl rfl rfl rfl ⟨Nat.le_of_ble_eq_true rfl, Nat.le_of_ble_eq_true rfl⟩ hl.1 (Nat.le_of_ble_eq_true rfl) dL_law_393 ⟨by show cells + 5 + 0 ≤ 613125; omega, by show slots + 31 + 0 ≤ 7262874; omega⟩) (fun H locs w => ?_)
    have w : WD G (LwA s) (w_PL G ad kad cad I R WI WA GI GA LI LA LJ nK nC KI KA CK CD ++ w_X6 G am Mi Ma Mj) s H locs := w.eqw (by rw [List.append_nil])
    refine lv_icmp_eq (tgt := 887) hx hb dL_law_396 (by decide) (fun _ => ?_) (fun z => absurd rfl z)
    refine W.widen (k := cells + 5) (n := slots + 31) (by show cells + 5 ≤ cells + 5; omega) (by show slots + 31 ≤ slots + 31; omega) ?_
    exact kk _ _ ⟨ad, kad, cad, am, I, R, WI, WA, GI, GA, LI, LA, LJ, nK, nC, KI, KA, CK, CD, Mi, Ma, Mj, rfl, rfl, hR, w⟩
set_option maxHeartbeats 4000000 in
set_option maxRecDepth 100000 in
theorem law_task (C : CX p m meth c s #[.ref b] yL_law code 4 (some .boolean)) (hX : va_X b L xs s s.heap) (hbl : b < s.heap.size) (hi : i + 3 < L) (hL : L ≤ 2048) (hl : lv_has ls 4 [(3, .int (nI i)), (2, .ref q2), (1, .ref q1), (0, .ref b)]) (hce : cells + 5 ≤ 613125) (hsl : slots + 31 ≤ 7262874) (hV : LInv G s q1 q2 H locs) (kk : ∀ (H1 : Heap) (locs1 : List Loc), LInv G s q1 q2 H1 locs1 → W p l e room_1 s m #[.ref b] below meth c H1 locs1 (cells + 5) (slots + 31) Q (F0 m 887 ls [])) : W p l e room_1 s m #[.ref b] below meth c H locs cells slots Q (F0 m 401 ls []) := by
  obtain ⟨ad, kad, cad, am, I, R, WI, WA, GI, GA, LI, LA, LJ, nK, nC, KI, KA, CK, CD, Mi, Ma, Mj, had, ham, hR, w⟩ := hV
  subst had; subst ham
  obtain ⟨hI6, hn4, hI7, hn16, hCK⟩ := Rel_ns hR
  have hx := C.1
  have hb := C.2.1
  have hbA : ¬ LwA s b := Nat.not_le.mpr hbl
  have in1 : vp_in (nI i + 1) L := by rw [xa1]; exact vp_in_nI (by omega) (by omega)
  have in2 : vp_in (nI i + 2) L := by rw [xa2]; exact vp_in_nI (by omega) (by omega)
  have in3 : vp_in (nI i + 3) L := by rw [xa3]; exact vp_in_nI (by omega) (by omega)
  refine lv_aload_n hx hb dL_law_401 rfl (lv_at hl 2 rfl) ?_
  refine lv_aload_n hx hb dL_law_402 rfl (lv_at hl 3 rfl) ?_
  refine lv_iload_n hx hb dL_law_403 rfl (lv_at hl 0 rfl) ?_
  refine lv_iconst (v := 1) hx hb dL_law_404 (by decide) ?_
  refine lv_iadd hx hb dL_law_405 ?_
  refine va_sld hx hb hX hbl hbA w.2.2.1 in1 dL_law_406 ?_
  refine lv_aload_n hx hb dL_law_407 rfl (lv_at hl 3 rfl) ?_
  refine lv_iload_n hx hb dL_law_408 rfl (lv_at hl 0 rfl) ?_
  refine lv_iconst (v := 2) hx hb dL_law_409 (by decide) ?_
  refine lv_iadd hx hb dL_law_410 ?_
  refine va_sld hx hb hX hbl hbA w.2.2.1 in2 dL_law_411 ?_
  refine lv_aload_n hx hb dL_law_412 rfl (lv_at hl 3 rfl) ?_
  refine lv_iload_n hx hb dL_law_413 rfl (lv_at hl 0 rfl) ?_
  refine lv_iconst (v := 3) hx hb dL_law_414 (by decide) ?_
  refine lv_iadd hx hb dL_law_415 ?_
  refine va_sld hx hb hX hbl hbA w.2.2.1 in3 dL_law_416 ?_
  obtain ⟨r, I', KI', KA', Mi', Ma', Mj', e1, e2, hR'⟩ := m_task (N := 250) (Nat.le_refl 250) (xs (nI i + 1).toNatClampNeg) (xs (nI i + 2).toNatClampNeg) (xs (nI i + 3).toNatClampNeg) hR
  have w0 : WD G (LwA s) ([] ++ (w_PL G ad kad cad I R WI WA GI GA LI LA LJ nK nC KI KA CK CD ++ w_X6 G am Mi Ma Mj)) s _ _ := w
  refine cl_i (wc' := w_PL G ad kad cad (I') R WI WA GI GA LI LA LJ nK nC (KI') (KA') CK CD) w0 (run_V (As := [.int (xs (nI i + 1).toNatClampNeg), .int (xs (nI i + 2).toNatClampNeg), .int (xs (nI i + 3).toNatClampNeg)]) (rest := []) C w0 (c_X5_task l G ad kad cad _ _ _ _ _ _ _ _ _ _ _ _ _ _ _ _ _ _ _ _ _ _ _ hI6 hn4 e1) mt_X5_task tt_365 5 rfl rfl rfl rfl ⟨Nat.le_of_ble_eq_true rfl, Nat.le_of_ble_eq_true rfl⟩ hl.1 (Nat.le_of_ble_eq_true rfl) dL_law_417 ⟨by show cells + 0 ≤ 613125; omega, by show slots + 0 ≤ 7262874; omega⟩) (fun H locs w => ?_)
  have w : WD G (LwA s) (w_PL G ad kad cad (I') R WI WA GI GA LI LA LJ nK nC (KI') (KA') CK CD ++ w_X6 G am Mi Ma Mj) s H locs := w
  refine lv_aload_n hx hb dL_law_420 rfl (lv_at hl 1 rfl) ?_
  refine lv_aload_n hx hb dL_law_421 rfl (lv_at hl 3 rfl) ?_
  refine lv_iload_n hx hb dL_law_422 rfl (lv_at hl 0 rfl) ?_
  refine lv_iconst (v := 1) hx hb dL_law_423 (by decide) ?_
  refine lv_iadd hx hb dL_law_424 ?_
  refine va_sld hx hb hX hbl hbA w.2.2.1 in1 dL_law_425 ?_
  refine lv_aload_n hx hb dL_law_426 rfl (lv_at hl 3 rfl) ?_
  refine lv_iload_n hx hb dL_law_427 rfl (lv_at hl 0 rfl) ?_
  refine lv_iconst (v := 2) hx hb dL_law_428 (by decide) ?_
  refine lv_iadd hx hb dL_law_429 ?_
  refine va_sld hx hb hX hbl hbA w.2.2.1 in2 dL_law_430 ?_
  refine lv_aload_n hx hb dL_law_431 rfl (lv_at hl 3 rfl) ?_
  refine lv_iload_n hx hb dL_law_432 rfl (lv_at hl 0 rfl) ?_
  refine lv_iconst (v := 3) hx hb dL_law_433 (by decide) ?_
  refine lv_iadd hx hb dL_law_434 ?_
  refine va_sld hx hb hX hbl hbA w.2.2.1 in3 dL_law_435 ?_
  have w0 : WD G (LwA s) (w_PL G ad kad cad (I') R WI WA GI GA LI LA LJ nK nC (KI') (KA') CK CD ++ (w_X6 G am Mi Ma Mj ++ [])) s _ _ := w.eqw (by rw [List.append_nil])
  refine cl_i (wc' := w_X6 G am (Mi') (Ma') (Mj')) w0 (run_V (As := [.int (xs (nI i + 1).toNatClampNeg), .int (xs (nI i + 2).toNatClampNeg), .int (xs (nI i + 3).toNatClampNeg)]) (rest := [.int r]) C w0 (c_X6_task l G am _ _ _ _ _ _ _ _ _ _ _ _ e2) mt_X6_task tt_708 6 rfl rfl rfl rfl ⟨Nat.le_of_ble_eq_true rfl, Nat.le_of_ble_eq_true rfl⟩ hl.1 (Nat.le_of_ble_eq_true rfl) dL_law_436 ⟨by show cells + 0 ≤ 613125; omega, by show slots + 0 ≤ 7262874; omega⟩) (fun H locs w => ?_)
  have w : WD G (LwA s) (w_PL G ad kad cad (I') R WI WA GI GA LI LA LJ nK nC (KI') (KA') CK CD ++ w_X6 G am (Mi') (Ma') (Mj')) s H locs := w.eqw (by rw [List.append_nil])
  refine lv_icmp_eq (tgt := 887) hx hb dL_law_439 (by decide) (fun _ => ?_) (fun z => absurd rfl z)
  refine W.widen (k := cells + 5) (n := slots + 31) (by show cells ≤ cells + 5; omega) (by show slots ≤ slots + 31; omega) ?_
  exact kk _ _ ⟨ad, kad, cad, am, I', R, WI, WA, GI, GA, LI, LA, LJ, nK, nC, KI', KA', CK, CD, Mi', Ma', Mj', rfl, rfl, hR', w⟩
set_option maxHeartbeats 4000000 in
set_option maxRecDepth 100000 in
theorem law_apart (C : CX p m meth c s #[.ref b] yL_law code 4 (some .boolean)) (hX : va_X b L xs s s.heap) (hbl : b < s.heap.size) (hi : i + 3 < L) (hL : L ≤ 2048) (hl : lv_has ls 4 [(3, .int (nI i)), (2, .ref q2), (1, .ref q1), (0, .ref b)]) (hce : cells + 5 ≤ 613125) (hsl : slots + 31 ≤ 7262874) (hV : LInv G s q1 q2 H locs) (kk : ∀ (H1 : Heap) (locs1 : List Loc), LInv G s q1 q2 H1 locs1 → W p l e room_1 s m #[.ref b] below meth c H1 locs1 (cells + 5) (slots + 31) Q (F0 m 887 ls [])) : W p l e room_1 s m #[.ref b] below meth c H locs cells slots Q (F0 m 444 ls []) := by
  obtain ⟨ad, kad, cad, am, I, R, WI, WA, GI, GA, LI, LA, LJ, nK, nC, KI, KA, CK, CD, Mi, Ma, Mj, had, ham, hR, w⟩ := hV
  subst had; subst ham
  obtain ⟨hI6, hn4, hI7, hn16, hCK⟩ := Rel_ns hR
  have hx := C.1
  have hb := C.2.1
  have hbA : ¬ LwA s b := Nat.not_le.mpr hbl
  have in1 : vp_in (nI i + 1) L := by rw [xa1]; exact vp_in_nI (by omega) (by omega)
  have in2 : vp_in (nI i + 2) L := by rw [xa2]; exact vp_in_nI (by omega) (by omega)
  have in3 : vp_in (nI i + 3) L := by rw [xa3]; exact vp_in_nI (by omega) (by omega)
  refine lv_aload_n hx hb dL_law_444 rfl (lv_at hl 2 rfl) ?_
  refine lv_aload_n hx hb dL_law_445 rfl (lv_at hl 3 rfl) ?_
  refine lv_iload_n hx hb dL_law_446 rfl (lv_at hl 0 rfl) ?_
  refine lv_iconst (v := 1) hx hb dL_law_447 (by decide) ?_
  refine lv_iadd hx hb dL_law_448 ?_
  refine va_sld hx hb hX hbl hbA w.2.2.1 in1 dL_law_449 ?_
  refine lv_aload_n hx hb dL_law_450 rfl (lv_at hl 3 rfl) ?_
  refine lv_iload_n hx hb dL_law_451 rfl (lv_at hl 0 rfl) ?_
  refine lv_iconst (v := 2) hx hb dL_law_452 (by decide) ?_
  refine lv_iadd hx hb dL_law_453 ?_
  refine va_sld hx hb hX hbl hbA w.2.2.1 in2 dL_law_454 ?_
  refine lv_aload_n hx hb dL_law_455 rfl (lv_at hl 3 rfl) ?_
  refine lv_iload_n hx hb dL_law_456 rfl (lv_at hl 0 rfl) ?_
  refine lv_iconst (v := 3) hx hb dL_law_457 (by decide) ?_
  refine lv_iadd hx hb dL_law_458 ?_
  refine va_sld hx hb hX hbl hbA w.2.2.1 in3 dL_law_459 ?_
  obtain ⟨r, I', KI', KA', Mi', Ma', Mj', e1, e2, hR'⟩ := m_apart (N := 250) (Nat.le_refl 250) (xs (nI i + 1).toNatClampNeg) (xs (nI i + 2).toNatClampNeg) (xs (nI i + 3).toNatClampNeg) hR
  have w0 : WD G (LwA s) ([] ++ (w_PL G ad kad cad I R WI WA GI GA LI LA LJ nK nC KI KA CK CD ++ w_X6 G am Mi Ma Mj)) s _ _ := w
  refine cl_i (wc' := w_PL G ad kad cad (I') R WI WA GI GA LI LA LJ nK nC (KI') (KA') CK CD) w0 (run_V (As := [.int (xs (nI i + 1).toNatClampNeg), .int (xs (nI i + 2).toNatClampNeg), .int (xs (nI i + 3).toNatClampNeg)]) (rest := []) C w0 (c_X5_apart l G ad kad cad _ _ _ _ _ _ _ _ _ _ _ _ _ _ _ _ _ _ _ _ _ _ _ hI6 hn4 e1) mt_X5_apart tt_385 5 rfl rfl rfl rfl ⟨Nat.le_of_ble_eq_true rfl, Nat.le_of_ble_eq_true rfl⟩ hl.1 (Nat.le_of_ble_eq_true rfl) dL_law_460 ⟨by show cells + 0 ≤ 613125; omega, by show slots + 0 ≤ 7262874; omega⟩) (fun H locs w => ?_)
  have w : WD G (LwA s) (w_PL G ad kad cad (I') R WI WA GI GA LI LA LJ nK nC (KI') (KA') CK CD ++ w_X6 G am Mi Ma Mj) s H locs := w
  refine lv_aload_n hx hb dL_law_463 rfl (lv_at hl 1 rfl) ?_
  refine lv_aload_n hx hb dL_law_464 rfl (lv_at hl 3 rfl) ?_
  refine lv_iload_n hx hb dL_law_465 rfl (lv_at hl 0 rfl) ?_
  refine lv_iconst (v := 1) hx hb dL_law_466 (by decide) ?_
  refine lv_iadd hx hb dL_law_467 ?_
  refine va_sld hx hb hX hbl hbA w.2.2.1 in1 dL_law_468 ?_
  refine lv_aload_n hx hb dL_law_469 rfl (lv_at hl 3 rfl) ?_
  refine lv_iload_n hx hb dL_law_470 rfl (lv_at hl 0 rfl) ?_
  refine lv_iconst (v := 2) hx hb dL_law_471 (by decide) ?_
  refine lv_iadd hx hb dL_law_472 ?_
  refine va_sld hx hb hX hbl hbA w.2.2.1 in2 dL_law_473 ?_
  refine lv_aload_n hx hb dL_law_474 rfl (lv_at hl 3 rfl) ?_
  refine lv_iload_n hx hb dL_law_475 rfl (lv_at hl 0 rfl) ?_
  refine lv_iconst (v := 3) hx hb dL_law_476 (by decide) ?_
  refine lv_iadd hx hb dL_law_477 ?_
  refine va_sld hx hb hX hbl hbA w.2.2.1 in3 dL_law_478 ?_
  have w0 : WD G (LwA s) (w_PL G ad kad cad (I') R WI WA GI GA LI LA LJ nK nC (KI') (KA') CK CD ++ (w_X6 G am Mi Ma Mj ++ [])) s _ _ := w.eqw (by rw [List.append_nil])
  refine cl_i (wc' := w_X6 G am (Mi') (Ma') (Mj')) w0 (run_V (As := [.int (xs (nI i + 1).toNatClampNeg), .int (xs (nI i + 2).toNatClampNeg), .int (xs (nI i + 3).toNatClampNeg)]) (rest := [.int r]) C w0 (c_X6_apart l G am _ _ _ _ _ _ _ _ _ _ _ _ e2) mt_X6_apart tt_716 6 rfl rfl rfl rfl ⟨Nat.le_of_ble_eq_true rfl, Nat.le_of_ble_eq_true rfl⟩ hl.1 (Nat.le_of_ble_eq_true rfl) dL_law_479 ⟨by show cells + 0 ≤ 613125; omega, by show slots + 0 ≤ 7262874; omega⟩) (fun H locs w => ?_)
  have w : WD G (LwA s) (w_PL G ad kad cad (I') R WI WA GI GA LI LA LJ nK nC (KI') (KA') CK CD ++ w_X6 G am (Mi') (Ma') (Mj')) s H locs := w.eqw (by rw [List.append_nil])
  refine lv_icmp_eq (tgt := 887) hx hb dL_law_482 (by decide) (fun _ => ?_) (fun z => absurd rfl z)
  refine W.widen (k := cells + 5) (n := slots + 31) (by show cells ≤ cells + 5; omega) (by show slots ≤ slots + 31; omega) ?_
  exact kk _ _ ⟨ad, kad, cad, am, I', R, WI, WA, GI, GA, LI, LA, LJ, nK, nC, KI', KA', CK, CD, Mi', Ma', Mj', rfl, rfl, hR', w⟩
set_option maxHeartbeats 4000000 in
set_option maxRecDepth 100000 in
theorem law_bound (C : CX p m meth c s #[.ref b] yL_law code 4 (some .boolean)) (hX : va_X b L xs s s.heap) (hbl : b < s.heap.size) (hi : i + 3 < L) (hL : L ≤ 2048) (hl : lv_has ls 4 [(3, .int (nI i)), (2, .ref q2), (1, .ref q1), (0, .ref b)]) (hce : cells + 5 ≤ 613125) (hsl : slots + 31 ≤ 7262874) (hV : LInv G s q1 q2 H locs) (kk : ∀ (H1 : Heap) (locs1 : List Loc), LInv G s q1 q2 H1 locs1 → W p l e room_1 s m #[.ref b] below meth c H1 locs1 (cells + 5) (slots + 31) Q (F0 m 887 ls [])) : W p l e room_1 s m #[.ref b] below meth c H locs cells slots Q (F0 m 487 ls []) := by
  obtain ⟨ad, kad, cad, am, I, R, WI, WA, GI, GA, LI, LA, LJ, nK, nC, KI, KA, CK, CD, Mi, Ma, Mj, had, ham, hR, w⟩ := hV
  subst had; subst ham
  obtain ⟨hI6, hn4, hI7, hn16, hCK⟩ := Rel_ns hR
  have hx := C.1
  have hb := C.2.1
  have hbA : ¬ LwA s b := Nat.not_le.mpr hbl
  have in1 : vp_in (nI i + 1) L := by rw [xa1]; exact vp_in_nI (by omega) (by omega)
  have in2 : vp_in (nI i + 2) L := by rw [xa2]; exact vp_in_nI (by omega) (by omega)
  have in3 : vp_in (nI i + 3) L := by rw [xa3]; exact vp_in_nI (by omega) (by omega)
  refine lv_aload_n hx hb dL_law_487 rfl (lv_at hl 2 rfl) ?_
  refine lv_aload_n hx hb dL_law_488 rfl (lv_at hl 3 rfl) ?_
  refine lv_iload_n hx hb dL_law_489 rfl (lv_at hl 0 rfl) ?_
  refine lv_iconst (v := 1) hx hb dL_law_490 (by decide) ?_
  refine lv_iadd hx hb dL_law_491 ?_
  refine va_sld hx hb hX hbl hbA w.2.2.1 in1 dL_law_492 ?_
  refine lv_aload_n hx hb dL_law_493 rfl (lv_at hl 3 rfl) ?_
  refine lv_iload_n hx hb dL_law_494 rfl (lv_at hl 0 rfl) ?_
  refine lv_iconst (v := 2) hx hb dL_law_495 (by decide) ?_
  refine lv_iadd hx hb dL_law_496 ?_
  refine va_sld hx hb hX hbl hbA w.2.2.1 in2 dL_law_497 ?_
  refine lv_aload_n hx hb dL_law_498 rfl (lv_at hl 3 rfl) ?_
  refine lv_iload_n hx hb dL_law_499 rfl (lv_at hl 0 rfl) ?_
  refine lv_iconst (v := 3) hx hb dL_law_500 (by decide) ?_
  refine lv_iadd hx hb dL_law_501 ?_
  refine va_sld hx hb hX hbl hbA w.2.2.1 in3 dL_law_502 ?_
  obtain ⟨r, I', KI', KA', Mi', Ma', Mj', e1, e2, hR'⟩ := m_bound (N := 250) (Nat.le_refl 250) (xs (nI i + 1).toNatClampNeg) (xs (nI i + 2).toNatClampNeg) (xs (nI i + 3).toNatClampNeg) hR
  have w0 : WD G (LwA s) ([] ++ (w_PL G ad kad cad I R WI WA GI GA LI LA LJ nK nC KI KA CK CD ++ w_X6 G am Mi Ma Mj)) s _ _ := w
  refine cl_i (wc' := w_PL G ad kad cad (I') R WI WA GI GA LI LA LJ nK nC (KI') (KA') CK CD) w0 (run_V (As := [.int (xs (nI i + 1).toNatClampNeg), .int (xs (nI i + 2).toNatClampNeg), .int (xs (nI i + 3).toNatClampNeg)]) (rest := []) C w0 (c_X5_bound l G ad kad cad _ _ _ _ _ _ _ _ _ _ _ _ _ _ _ _ _ _ _ _ _ _ _ hI6 hn4 e1) mt_X5_bound tt_401 5 rfl rfl rfl rfl ⟨Nat.le_of_ble_eq_true rfl, Nat.le_of_ble_eq_true rfl⟩ hl.1 (Nat.le_of_ble_eq_true rfl) dL_law_503 ⟨by show cells + 0 ≤ 613125; omega, by show slots + 0 ≤ 7262874; omega⟩) (fun H locs w => ?_)
  have w : WD G (LwA s) (w_PL G ad kad cad (I') R WI WA GI GA LI LA LJ nK nC (KI') (KA') CK CD ++ w_X6 G am Mi Ma Mj) s H locs := w
  refine lv_aload_n hx hb dL_law_506 rfl (lv_at hl 1 rfl) ?_
  refine lv_aload_n hx hb dL_law_507 rfl (lv_at hl 3 rfl) ?_
  refine lv_iload_n hx hb dL_law_508 rfl (lv_at hl 0 rfl) ?_
  refine lv_iconst (v := 1) hx hb dL_law_509 (by decide) ?_
  refine lv_iadd hx hb dL_law_510 ?_
  refine va_sld hx hb hX hbl hbA w.2.2.1 in1 dL_law_511 ?_
  refine lv_aload_n hx hb dL_law_512 rfl (lv_at hl 3 rfl) ?_
  refine lv_iload_n hx hb dL_law_513 rfl (lv_at hl 0 rfl) ?_
  refine lv_iconst (v := 2) hx hb dL_law_514 (by decide) ?_
  refine lv_iadd hx hb dL_law_515 ?_
  refine va_sld hx hb hX hbl hbA w.2.2.1 in2 dL_law_516 ?_
  refine lv_aload_n hx hb dL_law_517 rfl (lv_at hl 3 rfl) ?_
  refine lv_iload_n hx hb dL_law_518 rfl (lv_at hl 0 rfl) ?_
  refine lv_iconst (v := 3) hx hb dL_law_519 (by decide) ?_
  refine lv_iadd hx hb dL_law_520 ?_
  refine va_sld hx hb hX hbl hbA w.2.2.1 in3 dL_law_521 ?_
  have w0 : WD G (LwA s) (w_PL G ad kad cad (I') R WI WA GI GA LI LA LJ nK nC (KI') (KA') CK CD ++ (w_X6 G am Mi Ma Mj ++ [])) s _ _ := w.eqw (by rw [List.append_nil])
  refine cl_i (wc' := w_X6 G am (Mi') (Ma') (Mj')) w0 (run_V (As := [.int (xs (nI i + 1).toNatClampNeg), .int (xs (nI i + 2).toNatClampNeg), .int (xs (nI i + 3).toNatClampNeg)]) (rest := [.int r]) C w0 (c_X6_bound l G am _ _ _ _ _ _ _ _ _ _ _ _ e2) mt_X6_bound tt_730 6 rfl rfl rfl rfl ⟨Nat.le_of_ble_eq_true rfl, Nat.le_of_ble_eq_true rfl⟩ hl.1 (Nat.le_of_ble_eq_true rfl) dL_law_522 ⟨by show cells + 0 ≤ 613125; omega, by show slots + 0 ≤ 7262874; omega⟩) (fun H locs w => ?_)
  have w : WD G (LwA s) (w_PL G ad kad cad (I') R WI WA GI GA LI LA LJ nK nC (KI') (KA') CK CD ++ w_X6 G am (Mi') (Ma') (Mj')) s H locs := w.eqw (by rw [List.append_nil])
  refine lv_icmp_eq (tgt := 887) hx hb dL_law_525 (by decide) (fun _ => ?_) (fun z => absurd rfl z)
  refine W.widen (k := cells + 5) (n := slots + 31) (by show cells ≤ cells + 5; omega) (by show slots ≤ slots + 31; omega) ?_
  exact kk _ _ ⟨ad, kad, cad, am, I', R, WI, WA, GI, GA, LI, LA, LJ, nK, nC, KI', KA', CK, CD, Mi', Ma', Mj', rfl, rfl, hR', w⟩
set_option maxHeartbeats 4000000 in
set_option maxRecDepth 100000 in
theorem law_most (C : CX p m meth c s #[.ref b] yL_law code 4 (some .boolean)) (hX : va_X b L xs s s.heap) (hbl : b < s.heap.size) (hi : i + 3 < L) (hL : L ≤ 2048) (hl : lv_has ls 4 [(3, .int (nI i)), (2, .ref q2), (1, .ref q1), (0, .ref b)]) (hce : cells + 5 ≤ 613125) (hsl : slots + 31 ≤ 7262874) (hV : LInv G s q1 q2 H locs) (kk : ∀ (H1 : Heap) (locs1 : List Loc), LInv G s q1 q2 H1 locs1 → W p l e room_1 s m #[.ref b] below meth c H1 locs1 (cells + 5) (slots + 31) Q (F0 m 887 ls [])) : W p l e room_1 s m #[.ref b] below meth c H locs cells slots Q (F0 m 530 ls []) := by
  obtain ⟨ad, kad, cad, am, I, R, WI, WA, GI, GA, LI, LA, LJ, nK, nC, KI, KA, CK, CD, Mi, Ma, Mj, had, ham, hR, w⟩ := hV
  subst had; subst ham
  obtain ⟨hI6, hn4, hI7, hn16, hCK⟩ := Rel_ns hR
  have hx := C.1
  have hb := C.2.1
  have hbA : ¬ LwA s b := Nat.not_le.mpr hbl
  have in1 : vp_in (nI i + 1) L := by rw [xa1]; exact vp_in_nI (by omega) (by omega)
  have in2 : vp_in (nI i + 2) L := by rw [xa2]; exact vp_in_nI (by omega) (by omega)
  refine lv_aload_n hx hb dL_law_530 rfl (lv_at hl 2 rfl) ?_
  refine lv_aload_n hx hb dL_law_531 rfl (lv_at hl 3 rfl) ?_
  refine lv_iload_n hx hb dL_law_532 rfl (lv_at hl 0 rfl) ?_
  refine lv_iconst (v := 1) hx hb dL_law_533 (by decide) ?_
  refine lv_iadd hx hb dL_law_534 ?_
  refine va_sld hx hb hX hbl hbA w.2.2.1 in1 dL_law_535 ?_
  refine lv_aload_n hx hb dL_law_536 rfl (lv_at hl 3 rfl) ?_
  refine lv_iload_n hx hb dL_law_537 rfl (lv_at hl 0 rfl) ?_
  refine lv_iconst (v := 2) hx hb dL_law_538 (by decide) ?_
  refine lv_iadd hx hb dL_law_539 ?_
  refine va_sld hx hb hX hbl hbA w.2.2.1 in2 dL_law_540 ?_
  obtain ⟨r, I', KI', KA', Mi', Ma', Mj', e1, e2, hR'⟩ := m_most (N := 250) (Nat.le_refl 250) (xs (nI i + 1).toNatClampNeg) (xs (nI i + 2).toNatClampNeg) hR
  have w0 : WD G (LwA s) ([] ++ (w_PL G ad kad cad I R WI WA GI GA LI LA LJ nK nC KI KA CK CD ++ w_X6 G am Mi Ma Mj)) s _ _ := w
  refine cl_i (wc' := w_PL G ad kad cad (I') R WI WA GI GA LI LA LJ nK nC (KI') (KA') CK CD) w0 (run_V (As := [.int (xs (nI i + 1).toNatClampNeg), .int (xs (nI i + 2).toNatClampNeg)]) (rest := []) C w0 (c_X5_most l G ad kad cad _ _ _ _ _ _ _ _ _ _ _ _ _ _ _ _ _ _ _ _ _ _ hI6 hn4 e1) mt_X5_most tt_405 5 rfl rfl rfl rfl ⟨Nat.le_of_ble_eq_true rfl, Nat.le_of_ble_eq_true rfl⟩ hl.1 (Nat.le_of_ble_eq_true rfl) dL_law_541 ⟨by show cells + 0 ≤ 613125; omega, by show slots + 0 ≤ 7262874; omega⟩) (fun H locs w => ?_)
  have w : WD G (LwA s) (w_PL G ad kad cad (I') R WI WA GI GA LI LA LJ nK nC (KI') (KA') CK CD ++ w_X6 G am Mi Ma Mj) s H locs := w
  refine lv_aload_n hx hb dL_law_544 rfl (lv_at hl 1 rfl) ?_
  refine lv_aload_n hx hb dL_law_545 rfl (lv_at hl 3 rfl) ?_
  refine lv_iload_n hx hb dL_law_546 rfl (lv_at hl 0 rfl) ?_
  refine lv_iconst (v := 1) hx hb dL_law_547 (by decide) ?_
  refine lv_iadd hx hb dL_law_548 ?_
  refine va_sld hx hb hX hbl hbA w.2.2.1 in1 dL_law_549 ?_
  refine lv_aload_n hx hb dL_law_550 rfl (lv_at hl 3 rfl) ?_
  refine lv_iload_n hx hb dL_law_551 rfl (lv_at hl 0 rfl) ?_
  refine lv_iconst (v := 2) hx hb dL_law_552 (by decide) ?_
  refine lv_iadd hx hb dL_law_553 ?_
  refine va_sld hx hb hX hbl hbA w.2.2.1 in2 dL_law_554 ?_
  have w0 : WD G (LwA s) (w_PL G ad kad cad (I') R WI WA GI GA LI LA LJ nK nC (KI') (KA') CK CD ++ (w_X6 G am Mi Ma Mj ++ [])) s _ _ := w.eqw (by rw [List.append_nil])
  refine cl_i (wc' := w_X6 G am (Mi') (Ma') (Mj')) w0 (run_V (As := [.int (xs (nI i + 1).toNatClampNeg), .int (xs (nI i + 2).toNatClampNeg)]) (rest := [.int r]) C w0 (c_X6_most l G am _ _ _ _ _ _ _ _ _ _ _ e2) mt_X6_most tt_734 6 rfl rfl rfl rfl ⟨Nat.le_of_ble_eq_true rfl, Nat.le_of_ble_eq_true rfl⟩ hl.1 (Nat.le_of_ble_eq_true rfl) dL_law_555 ⟨by show cells + 0 ≤ 613125; omega, by show slots + 0 ≤ 7262874; omega⟩) (fun H locs w => ?_)
  have w : WD G (LwA s) (w_PL G ad kad cad (I') R WI WA GI GA LI LA LJ nK nC (KI') (KA') CK CD ++ w_X6 G am (Mi') (Ma') (Mj')) s H locs := w.eqw (by rw [List.append_nil])
  refine lv_icmp_eq (tgt := 887) hx hb dL_law_558 (by decide) (fun _ => ?_) (fun z => absurd rfl z)
  refine W.widen (k := cells + 5) (n := slots + 31) (by show cells ≤ cells + 5; omega) (by show slots ≤ slots + 31; omega) ?_
  exact kk _ _ ⟨ad, kad, cad, am, I', R, WI, WA, GI, GA, LI, LA, LJ, nK, nC, KI', KA', CK, CD, Mi', Ma', Mj', rfl, rfl, hR', w⟩
set_option maxHeartbeats 4000000 in
set_option maxRecDepth 100000 in
theorem law_open (C : CX p m meth c s #[.ref b] yL_law code 4 (some .boolean)) (hX : va_X b L xs s s.heap) (hbl : b < s.heap.size) (hi : i + 3 < L) (hL : L ≤ 2048) (hl : lv_has ls 4 [(3, .int (nI i)), (2, .ref q2), (1, .ref q1), (0, .ref b)]) (hce : cells + 5 ≤ 613125) (hsl : slots + 31 ≤ 7262874) (hV : LInv G s q1 q2 H locs) (kk : ∀ (H1 : Heap) (locs1 : List Loc), LInv G s q1 q2 H1 locs1 → W p l e room_1 s m #[.ref b] below meth c H1 locs1 (cells + 5) (slots + 31) Q (F0 m 887 ls [])) : W p l e room_1 s m #[.ref b] below meth c H locs cells slots Q (F0 m 563 ls []) := by
  obtain ⟨ad, kad, cad, am, I, R, WI, WA, GI, GA, LI, LA, LJ, nK, nC, KI, KA, CK, CD, Mi, Ma, Mj, had, ham, hR, w⟩ := hV
  subst had; subst ham
  obtain ⟨hI6, hn4, hI7, hn16, hCK⟩ := Rel_ns hR
  have hx := C.1
  have hb := C.2.1
  have hbA : ¬ LwA s b := Nat.not_le.mpr hbl
  have in1 : vp_in (nI i + 1) L := by rw [xa1]; exact vp_in_nI (by omega) (by omega)
  refine lv_aload_n hx hb dL_law_563 rfl (lv_at hl 2 rfl) ?_
  refine lv_aload_n hx hb dL_law_564 rfl (lv_at hl 3 rfl) ?_
  refine lv_iload_n hx hb dL_law_565 rfl (lv_at hl 0 rfl) ?_
  refine lv_iconst (v := 1) hx hb dL_law_566 (by decide) ?_
  refine lv_iadd hx hb dL_law_567 ?_
  refine va_sld hx hb hX hbl hbA w.2.2.1 in1 dL_law_568 ?_
  rcases m_open (N := 250) (Nat.le_refl 250) (xs (nI i + 1).toNatClampNeg) hR with ⟨r, f1, e2⟩ | ⟨k, f1, f2, f3, Mi', Ma', e2, hR'⟩
  · have w0 : WD G (LwA s) ([] ++ (w_PL G ad kad cad I R WI WA GI GA LI LA LJ nK nC KI KA CK CD ++ w_X6 G am Mi Ma Mj)) s _ _ := w
    refine cl_e w0 (run_V (As := [.int (xs (nI i + 1).toNatClampNeg)]) (rest := []) C w0 (c_X5_open_bad l G ad kad cad _ _ _ _ _ _ _ _ _ _ _ _ _ _ _ _ _ hI6 hn4 _ f1) mt_X5_open tt_409 5 rfl rfl rfl rfl ⟨Nat.le_of_ble_eq_true rfl, Nat.le_of_ble_eq_true rfl⟩ hl.1 (Nat.le_of_ble_eq_true rfl) dL_law_569 ⟨by show cells + 2 ≤ 613125; omega, by show slots + 8 ≤ 7262874; omega⟩) (fun _ H locs _ w => ?_)
    have w : WD G (LwA s) (w_PL G ad kad cad I R WI WA GI GA LI LA LJ nK nC KI KA CK CD ++ w_X6 G am Mi Ma Mj) s H locs := w
    refine lv_aload_n hx hb dL_law_572 rfl (lv_at hl 1 rfl) ?_
    refine lv_aload_n hx hb dL_law_573 rfl (lv_at hl 3 rfl) ?_
    refine lv_iload_n hx hb dL_law_574 rfl (lv_at hl 0 rfl) ?_
    refine lv_iconst (v := 1) hx hb dL_law_575 (by decide) ?_
    refine lv_iadd hx hb dL_law_576 ?_
    refine va_sld hx hb hX hbl hbA w.2.2.1 in1 dL_law_577 ?_
    have w0 : WD G (LwA s) (w_PL G ad kad cad I R WI WA GI GA LI LA LJ nK nC KI KA CK CD ++ (w_X6 G am Mi Ma Mj ++ [])) s _ _ := w.eqw (by rw [List.append_nil])
    refine cl_i (wc' := w_X6 G am Mi Ma Mj) w0 (run_V (As := [.int (xs (nI i + 1).toNatClampNeg)]) (rest := [.int r]) C w0 (c_X6_open l G am _ _ _ _ _ _ _ _ _ _ e2) mt_X6_open tt_738 6 rfl rfl rfl rfl ⟨Nat.le_of_ble_eq_true rfl, Nat.le_of_ble_eq_true rfl⟩ hl.1 (Nat.le_of_ble_eq_true rfl) dL_law_578 ⟨by show cells + 2 + 0 ≤ 613125; omega, by show slots + 8 + 0 ≤ 7262874; omega⟩) (fun H locs w => ?_)
    have w : WD G (LwA s) (w_PL G ad kad cad I R WI WA GI GA LI LA LJ nK nC KI KA CK CD ++ w_X6 G am Mi Ma Mj) s H locs := w.eqw (by rw [List.append_nil])
    refine lv_icmp_eq (tgt := 887) hx hb dL_law_581 (by decide) (fun _ => ?_) (fun z => absurd rfl z)
    refine W.widen (k := cells + 5) (n := slots + 31) (by show cells + 2 ≤ cells + 5; omega) (by show slots + 8 ≤ slots + 31; omega) ?_
    exact kk _ _ ⟨ad, kad, cad, am, I, R, WI, WA, GI, GA, LI, LA, LJ, nK, nC, KI, KA, CK, CD, Mi, Ma, Mj, rfl, rfl, hR, w⟩
  · have w0 : WD G (LwA s) ([] ++ (w_PL G ad kad cad I R WI WA GI GA LI LA LJ nK nC KI KA CK CD ++ w_X6 G am Mi Ma Mj)) s _ _ := w
    refine cl_e w0 (run_V (As := [.int (xs (nI i + 1).toNatClampNeg)]) (rest := []) C w0 (c_X5_open_new l G ad kad cad _ _ _ _ _ _ _ _ _ _ _ _ _ _ _ _ _ hI6 hn4 hI7 f3 f1 f2) mt_X5_open tt_409 5 rfl rfl rfl rfl ⟨Nat.le_of_ble_eq_true rfl, Nat.le_of_ble_eq_true rfl⟩ hl.1 (Nat.le_of_ble_eq_true rfl) dL_law_569 ⟨by show cells + 2 ≤ 613125; omega, by show slots + 8 ≤ 7262874; omega⟩) (fun cad' H locs _ w => ?_)
    have w : WD G (LwA s) (w_PL G ad kad cad' (upd I 7 (I 7 + 1)) R WI WA GI GA LI LA LJ nK (nC + 1) (uN KI k (upd (KI k) 6 1)) KA (uN CK nC k) (uN CD nC caseD0) ++ w_X6 G am Mi Ma Mj) s H locs := w
    refine lv_aload_n hx hb dL_law_572 rfl (lv_at hl 1 rfl) ?_
    refine lv_aload_n hx hb dL_law_573 rfl (lv_at hl 3 rfl) ?_
    refine lv_iload_n hx hb dL_law_574 rfl (lv_at hl 0 rfl) ?_
    refine lv_iconst (v := 1) hx hb dL_law_575 (by decide) ?_
    refine lv_iadd hx hb dL_law_576 ?_
    refine va_sld hx hb hX hbl hbA w.2.2.1 in1 dL_law_577 ?_
    have w0 : WD G (LwA s) (w_PL G ad kad cad' (upd I 7 (I 7 + 1)) R WI WA GI GA LI LA LJ nK (nC + 1) (uN KI k (upd (KI k) 6 1)) KA (uN CK nC k) (uN CD nC caseD0) ++ (w_X6 G am Mi Ma Mj ++ [])) s _ _ := w.eqw (by rw [List.append_nil])
    refine cl_i (wc' := w_X6 G am (Mi') (Ma') Mj) w0 (run_V (As := [.int (xs (nI i + 1).toNatClampNeg)]) (rest := [.int ((upd I 7 (I 7 + 1)) 7 - 1)]) C w0 (c_X6_open l G am _ _ _ _ _ _ _ _ _ _ e2) mt_X6_open tt_738 6 rfl rfl rfl rfl ⟨Nat.le_of_ble_eq_true rfl, Nat.le_of_ble_eq_true rfl⟩ hl.1 (Nat.le_of_ble_eq_true rfl) dL_law_578 ⟨by show cells + 2 + 0 ≤ 613125; omega, by show slots + 8 + 0 ≤ 7262874; omega⟩) (fun H locs w => ?_)
    have w : WD G (LwA s) (w_PL G ad kad cad' (upd I 7 (I 7 + 1)) R WI WA GI GA LI LA LJ nK (nC + 1) (uN KI k (upd (KI k) 6 1)) KA (uN CK nC k) (uN CD nC caseD0) ++ w_X6 G am (Mi') (Ma') Mj) s H locs := w.eqw (by rw [List.append_nil])
    refine lv_icmp_eq (tgt := 887) hx hb dL_law_581 (by decide) (fun _ => ?_) (fun z => absurd rfl z)
    refine W.widen (k := cells + 5) (n := slots + 31) (by show cells + 2 ≤ cells + 5; omega) (by show slots + 8 ≤ slots + 31; omega) ?_
    exact kk _ _ ⟨ad, kad, cad', am, (upd I 7 (I 7 + 1)), R, WI, WA, GI, GA, LI, LA, LJ, nK, (nC + 1), (uN KI k (upd (KI k) 6 1)), KA, (uN CK nC k), (uN CD nC caseD0), Mi', Ma', Mj, rfl, rfl, hR', w⟩
set_option maxHeartbeats 4000000 in
set_option maxRecDepth 100000 in
theorem law_perform (C : CX p m meth c s #[.ref b] yL_law code 4 (some .boolean)) (hX : va_X b L xs s s.heap) (hbl : b < s.heap.size) (hi : i + 3 < L) (hL : L ≤ 2048) (hl : lv_has ls 4 [(3, .int (nI i)), (2, .ref q2), (1, .ref q1), (0, .ref b)]) (hce : cells + 5 ≤ 613125) (hsl : slots + 31 ≤ 7262874) (hV : LInv G s q1 q2 H locs) (kk : ∀ (H1 : Heap) (locs1 : List Loc), LInv G s q1 q2 H1 locs1 → W p l e room_1 s m #[.ref b] below meth c H1 locs1 (cells + 5) (slots + 31) Q (F0 m 887 ls [])) : W p l e room_1 s m #[.ref b] below meth c H locs cells slots Q (F0 m 586 ls []) := by
  obtain ⟨ad, kad, cad, am, I, R, WI, WA, GI, GA, LI, LA, LJ, nK, nC, KI, KA, CK, CD, Mi, Ma, Mj, had, ham, hR, w⟩ := hV
  subst had; subst ham
  obtain ⟨hI6, hn4, hI7, hn16, hCK⟩ := Rel_ns hR
  have hx := C.1
  have hb := C.2.1
  have hbA : ¬ LwA s b := Nat.not_le.mpr hbl
  have in1 : vp_in (nI i + 1) L := by rw [xa1]; exact vp_in_nI (by omega) (by omega)
  have in2 : vp_in (nI i + 2) L := by rw [xa2]; exact vp_in_nI (by omega) (by omega)
  have in3 : vp_in (nI i + 3) L := by rw [xa3]; exact vp_in_nI (by omega) (by omega)
  refine lv_aload_n hx hb dL_law_586 rfl (lv_at hl 2 rfl) ?_
  refine lv_aload_n hx hb dL_law_587 rfl (lv_at hl 3 rfl) ?_
  refine lv_iload_n hx hb dL_law_588 rfl (lv_at hl 0 rfl) ?_
  refine lv_iconst (v := 1) hx hb dL_law_589 (by decide) ?_
  refine lv_iadd hx hb dL_law_590 ?_
  refine va_sld hx hb hX hbl hbA w.2.2.1 in1 dL_law_591 ?_
  refine lv_aload_n hx hb dL_law_592 rfl (lv_at hl 3 rfl) ?_
  refine lv_iload_n hx hb dL_law_593 rfl (lv_at hl 0 rfl) ?_
  refine lv_iconst (v := 2) hx hb dL_law_594 (by decide) ?_
  refine lv_iadd hx hb dL_law_595 ?_
  refine va_sld hx hb hX hbl hbA w.2.2.1 in2 dL_law_596 ?_
  refine lv_aload_n hx hb dL_law_597 rfl (lv_at hl 3 rfl) ?_
  refine lv_iload_n hx hb dL_law_598 rfl (lv_at hl 0 rfl) ?_
  refine lv_iconst (v := 3) hx hb dL_law_599 (by decide) ?_
  refine lv_iadd hx hb dL_law_600 ?_
  refine va_sld hx hb hX hbl hbA w.2.2.1 in3 dL_law_601 ?_
  obtain ⟨N, r, I', KI', KA', CD', R', LI', LA', LJ', Mi', Ma', Mj', e1, e2, hR'⟩ := m_perform (xs (nI i + 1).toNatClampNeg) (xs (nI i + 2).toNatClampNeg) (xs (nI i + 3).toNatClampNeg) hR
  have w0 : WD G (LwA s) ([] ++ (w_PL G ad kad cad I R WI WA GI GA LI LA LJ nK nC KI KA CK CD ++ w_X6 G am Mi Ma Mj)) s _ _ := w
  refine cl_i (wc' := w_PL G ad kad cad (I') (R') WI WA GI GA (LI') (LA') (LJ') nK nC (KI') (KA') CK (CD')) w0 (run_V (As := [.int (xs (nI i + 1).toNatClampNeg), .int (xs (nI i + 2).toNatClampNeg), .int (xs (nI i + 3).toNatClampNeg)]) (rest := []) C w0 (c_X5_perform l G ad kad cad _ _ _ _ _ _ _ _ _ _ _ _ _ _ _ _ _ _ _ _ _ _ _ _ _ _ _ _ _ hI7 hn16 hCK e1) mt_X5_perform tt_427 5 rfl rfl rfl rfl ⟨Nat.le_of_ble_eq_true rfl, Nat.le_of_ble_eq_true rfl⟩ hl.1 (Nat.le_of_ble_eq_true rfl) dL_law_602 ⟨by show cells + 0 ≤ 613125; omega, by show slots + 0 ≤ 7262874; omega⟩) (fun H locs w => ?_)
  have w : WD G (LwA s) (w_PL G ad kad cad (I') (R') WI WA GI GA (LI') (LA') (LJ') nK nC (KI') (KA') CK (CD') ++ w_X6 G am Mi Ma Mj) s H locs := w
  refine lv_aload_n hx hb dL_law_605 rfl (lv_at hl 1 rfl) ?_
  refine lv_aload_n hx hb dL_law_606 rfl (lv_at hl 3 rfl) ?_
  refine lv_iload_n hx hb dL_law_607 rfl (lv_at hl 0 rfl) ?_
  refine lv_iconst (v := 1) hx hb dL_law_608 (by decide) ?_
  refine lv_iadd hx hb dL_law_609 ?_
  refine va_sld hx hb hX hbl hbA w.2.2.1 in1 dL_law_610 ?_
  refine lv_aload_n hx hb dL_law_611 rfl (lv_at hl 3 rfl) ?_
  refine lv_iload_n hx hb dL_law_612 rfl (lv_at hl 0 rfl) ?_
  refine lv_iconst (v := 2) hx hb dL_law_613 (by decide) ?_
  refine lv_iadd hx hb dL_law_614 ?_
  refine va_sld hx hb hX hbl hbA w.2.2.1 in2 dL_law_615 ?_
  refine lv_aload_n hx hb dL_law_616 rfl (lv_at hl 3 rfl) ?_
  refine lv_iload_n hx hb dL_law_617 rfl (lv_at hl 0 rfl) ?_
  refine lv_iconst (v := 3) hx hb dL_law_618 (by decide) ?_
  refine lv_iadd hx hb dL_law_619 ?_
  refine va_sld hx hb hX hbl hbA w.2.2.1 in3 dL_law_620 ?_
  have w0 : WD G (LwA s) (w_PL G ad kad cad (I') (R') WI WA GI GA (LI') (LA') (LJ') nK nC (KI') (KA') CK (CD') ++ (w_X6 G am Mi Ma Mj ++ [])) s _ _ := w.eqw (by rw [List.append_nil])
  refine cl_i (wc' := w_X6 G am (Mi') (Ma') (Mj')) w0 (run_V (As := [.int (xs (nI i + 1).toNatClampNeg), .int (xs (nI i + 2).toNatClampNeg), .int (xs (nI i + 3).toNatClampNeg)]) (rest := [.int r]) C w0 (c_X6_perform l G am _ _ _ _ _ _ _ _ _ _ _ _ e2) mt_X6_perform tt_762 6 rfl rfl rfl rfl ⟨Nat.le_of_ble_eq_true rfl, Nat.le_of_ble_eq_true rfl⟩ hl.1 (Nat.le_of_ble_eq_true rfl) dL_law_621 ⟨by show cells + 0 ≤ 613125; omega, by show slots + 0 ≤ 7262874; omega⟩) (fun H locs w => ?_)
  have w : WD G (LwA s) (w_PL G ad kad cad (I') (R') WI WA GI GA (LI') (LA') (LJ') nK nC (KI') (KA') CK (CD') ++ w_X6 G am (Mi') (Ma') (Mj')) s H locs := w.eqw (by rw [List.append_nil])
  refine lv_icmp_eq (tgt := 887) hx hb dL_law_624 (by decide) (fun _ => ?_) (fun z => absurd rfl z)
  refine W.widen (k := cells + 5) (n := slots + 31) (by show cells ≤ cells + 5; omega) (by show slots ≤ slots + 31; omega) ?_
  exact kk _ _ ⟨ad, kad, cad, am, I', R', WI, WA, GI, GA, LI', LA', LJ', nK, nC, KI', KA', CK, CD', Mi', Ma', Mj', rfl, rfl, hR', w⟩
set_option maxHeartbeats 4000000 in
set_option maxRecDepth 100000 in
theorem law_canEnd (C : CX p m meth c s #[.ref b] yL_law code 4 (some .boolean)) (hX : va_X b L xs s s.heap) (hbl : b < s.heap.size) (hi : i + 3 < L) (hL : L ≤ 2048) (hl : lv_has ls 4 [(3, .int (nI i)), (2, .ref q2), (1, .ref q1), (0, .ref b)]) (hce : cells + 5 ≤ 613125) (hsl : slots + 31 ≤ 7262874) (hV : LInv G s q1 q2 H locs) (kk : ∀ (H1 : Heap) (locs1 : List Loc), LInv G s q1 q2 H1 locs1 → W p l e room_1 s m #[.ref b] below meth c H1 locs1 (cells + 5) (slots + 31) Q (F0 m 887 ls [])) : W p l e room_1 s m #[.ref b] below meth c H locs cells slots Q (F0 m 629 ls []) := by
  obtain ⟨ad, kad, cad, am, I, R, WI, WA, GI, GA, LI, LA, LJ, nK, nC, KI, KA, CK, CD, Mi, Ma, Mj, had, ham, hR, w⟩ := hV
  subst had; subst ham
  obtain ⟨hI6, hn4, hI7, hn16, hCK⟩ := Rel_ns hR
  have hx := C.1
  have hb := C.2.1
  have hbA : ¬ LwA s b := Nat.not_le.mpr hbl
  have in1 : vp_in (nI i + 1) L := by rw [xa1]; exact vp_in_nI (by omega) (by omega)
  refine lv_aload_n hx hb dL_law_629 rfl (lv_at hl 2 rfl) ?_
  refine lv_aload_n hx hb dL_law_630 rfl (lv_at hl 3 rfl) ?_
  refine lv_iload_n hx hb dL_law_631 rfl (lv_at hl 0 rfl) ?_
  refine lv_iconst (v := 1) hx hb dL_law_632 (by decide) ?_
  refine lv_iadd hx hb dL_law_633 ?_
  refine va_sld hx hb hX hbl hbA w.2.2.1 in1 dL_law_634 ?_
  obtain ⟨N, r, Ma', e1, e2, hR'⟩ := m_canEnd (xs (nI i + 1).toNatClampNeg) hR
  have w0 : WD G (LwA s) ([] ++ (w_PL G ad kad cad I R WI WA GI GA LI LA LJ nK nC KI KA CK CD ++ w_X6 G am Mi Ma Mj)) s _ _ := w
  refine cl_i (wc' := w_PL G ad kad cad I R WI WA GI GA LI LA LJ nK nC KI KA CK CD) w0 (run_V (As := [.int (xs (nI i + 1).toNatClampNeg)]) (rest := []) C w0 (c_X5_canEnd l G ad kad cad _ _ _ _ _ _ _ _ _ _ _ _ _ _ _ _ _ _ _ hI7 hn16 hCK e1) mt_X5_canEnd tt_486 5 rfl rfl rfl rfl ⟨Nat.le_of_ble_eq_true rfl, Nat.le_of_ble_eq_true rfl⟩ hl.1 (Nat.le_of_ble_eq_true rfl) dL_law_635 ⟨by show cells + 0 ≤ 613125; omega, by show slots + 0 ≤ 7262874; omega⟩) (fun H locs w => ?_)
  have w : WD G (LwA s) (w_PL G ad kad cad I R WI WA GI GA LI LA LJ nK nC KI KA CK CD ++ w_X6 G am Mi Ma Mj) s H locs := w
  refine lv_aload_n hx hb dL_law_638 rfl (lv_at hl 1 rfl) ?_
  refine lv_aload_n hx hb dL_law_639 rfl (lv_at hl 3 rfl) ?_
  refine lv_iload_n hx hb dL_law_640 rfl (lv_at hl 0 rfl) ?_
  refine lv_iconst (v := 1) hx hb dL_law_641 (by decide) ?_
  refine lv_iadd hx hb dL_law_642 ?_
  refine va_sld hx hb hX hbl hbA w.2.2.1 in1 dL_law_643 ?_
  have w0 : WD G (LwA s) (w_PL G ad kad cad I R WI WA GI GA LI LA LJ nK nC KI KA CK CD ++ (w_X6 G am Mi Ma Mj ++ [])) s _ _ := w.eqw (by rw [List.append_nil])
  refine cl_i (wc' := w_X6 G am Mi (Ma') Mj) w0 (run_V (As := [.int (xs (nI i + 1).toNatClampNeg)]) (rest := [.int r]) C w0 (c_X6_canEnd l G am _ _ _ _ _ _ _ _ _ _ e2) mt_X6_canEnd tt_742 6 rfl rfl rfl rfl ⟨Nat.le_of_ble_eq_true rfl, Nat.le_of_ble_eq_true rfl⟩ hl.1 (Nat.le_of_ble_eq_true rfl) dL_law_644 ⟨by show cells + 0 ≤ 613125; omega, by show slots + 0 ≤ 7262874; omega⟩) (fun H locs w => ?_)
  have w : WD G (LwA s) (w_PL G ad kad cad I R WI WA GI GA LI LA LJ nK nC KI KA CK CD ++ w_X6 G am Mi (Ma') Mj) s H locs := w.eqw (by rw [List.append_nil])
  refine lv_icmp_eq (tgt := 887) hx hb dL_law_647 (by decide) (fun _ => ?_) (fun z => absurd rfl z)
  refine W.widen (k := cells + 5) (n := slots + 31) (by show cells ≤ cells + 5; omega) (by show slots ≤ slots + 31; omega) ?_
  exact kk _ _ ⟨ad, kad, cad, am, I, R, WI, WA, GI, GA, LI, LA, LJ, nK, nC, KI, KA, CK, CD, Mi, Ma', Mj, rfl, rfl, hR', w⟩
set_option maxHeartbeats 4000000 in
set_option maxRecDepth 100000 in
theorem law_doer (C : CX p m meth c s #[.ref b] yL_law code 4 (some .boolean)) (hX : va_X b L xs s s.heap) (hbl : b < s.heap.size) (hi : i + 3 < L) (hL : L ≤ 2048) (hl : lv_has ls 4 [(3, .int (nI i)), (2, .ref q2), (1, .ref q1), (0, .ref b)]) (hce : cells + 5 ≤ 613125) (hsl : slots + 31 ≤ 7262874) (hV : LInv G s q1 q2 H locs) (kk : ∀ (H1 : Heap) (locs1 : List Loc), LInv G s q1 q2 H1 locs1 → W p l e room_1 s m #[.ref b] below meth c H1 locs1 (cells + 5) (slots + 31) Q (F0 m 887 ls [])) : W p l e room_1 s m #[.ref b] below meth c H locs cells slots Q (F0 m 652 ls []) := by
  obtain ⟨ad, kad, cad, am, I, R, WI, WA, GI, GA, LI, LA, LJ, nK, nC, KI, KA, CK, CD, Mi, Ma, Mj, had, ham, hR, w⟩ := hV
  subst had; subst ham
  obtain ⟨hI6, hn4, hI7, hn16, hCK⟩ := Rel_ns hR
  have hx := C.1
  have hb := C.2.1
  have hbA : ¬ LwA s b := Nat.not_le.mpr hbl
  have in1 : vp_in (nI i + 1) L := by rw [xa1]; exact vp_in_nI (by omega) (by omega)
  have in2 : vp_in (nI i + 2) L := by rw [xa2]; exact vp_in_nI (by omega) (by omega)
  refine lv_aload_n hx hb dL_law_652 rfl (lv_at hl 2 rfl) ?_
  refine lv_aload_n hx hb dL_law_653 rfl (lv_at hl 3 rfl) ?_
  refine lv_iload_n hx hb dL_law_654 rfl (lv_at hl 0 rfl) ?_
  refine lv_iconst (v := 1) hx hb dL_law_655 (by decide) ?_
  refine lv_iadd hx hb dL_law_656 ?_
  refine va_sld hx hb hX hbl hbA w.2.2.1 in1 dL_law_657 ?_
  refine lv_aload_n hx hb dL_law_658 rfl (lv_at hl 3 rfl) ?_
  refine lv_iload_n hx hb dL_law_659 rfl (lv_at hl 0 rfl) ?_
  refine lv_iconst (v := 2) hx hb dL_law_660 (by decide) ?_
  refine lv_iadd hx hb dL_law_661 ?_
  refine va_sld hx hb hX hbl hbA w.2.2.1 in2 dL_law_662 ?_
  obtain ⟨r, e1, e2⟩ := m_doer (xs (nI i + 1).toNatClampNeg) (xs (nI i + 2).toNatClampNeg) hR
  have w0 : WD G (LwA s) ([] ++ (w_PL G ad kad cad I R WI WA GI GA LI LA LJ nK nC KI KA CK CD ++ w_X6 G am Mi Ma Mj)) s _ _ := w
  refine cl_i (wc' := w_PL G ad kad cad I R WI WA GI GA LI LA LJ nK nC KI KA CK CD) w0 (run_V (As := [.int (xs (nI i + 1).toNatClampNeg), .int (xs (nI i + 2).toNatClampNeg)]) (rest := []) C w0 (c_X5_doer l G ad kad cad _ _ _ _ _ _ _ _ _ _ _ _ _ _ _ _ _ _ _ hI7 hn16 hCK e1) mt_X5_doer tt_491 5 rfl rfl rfl rfl ⟨Nat.le_of_ble_eq_true rfl, Nat.le_of_ble_eq_true rfl⟩ hl.1 (Nat.le_of_ble_eq_true rfl) dL_law_663 ⟨by show cells + 0 ≤ 613125; omega, by show slots + 0 ≤ 7262874; omega⟩) (fun H locs w => ?_)
  have w : WD G (LwA s) (w_PL G ad kad cad I R WI WA GI GA LI LA LJ nK nC KI KA CK CD ++ w_X6 G am Mi Ma Mj) s H locs := w
  refine lv_aload_n hx hb dL_law_666 rfl (lv_at hl 1 rfl) ?_
  refine lv_aload_n hx hb dL_law_667 rfl (lv_at hl 3 rfl) ?_
  refine lv_iload_n hx hb dL_law_668 rfl (lv_at hl 0 rfl) ?_
  refine lv_iconst (v := 1) hx hb dL_law_669 (by decide) ?_
  refine lv_iadd hx hb dL_law_670 ?_
  refine va_sld hx hb hX hbl hbA w.2.2.1 in1 dL_law_671 ?_
  refine lv_aload_n hx hb dL_law_672 rfl (lv_at hl 3 rfl) ?_
  refine lv_iload_n hx hb dL_law_673 rfl (lv_at hl 0 rfl) ?_
  refine lv_iconst (v := 2) hx hb dL_law_674 (by decide) ?_
  refine lv_iadd hx hb dL_law_675 ?_
  refine va_sld hx hb hX hbl hbA w.2.2.1 in2 dL_law_676 ?_
  have w0 : WD G (LwA s) (w_PL G ad kad cad I R WI WA GI GA LI LA LJ nK nC KI KA CK CD ++ (w_X6 G am Mi Ma Mj ++ [])) s _ _ := w.eqw (by rw [List.append_nil])
  refine cl_i (wc' := w_X6 G am Mi Ma Mj) w0 (run_V (As := [.int (xs (nI i + 1).toNatClampNeg), .int (xs (nI i + 2).toNatClampNeg)]) (rest := [.int r]) C w0 (c_X6_doer l G am _ _ _ _ _ _ _ e2) mt_X6_doer tt_754 6 rfl rfl rfl rfl ⟨Nat.le_of_ble_eq_true rfl, Nat.le_of_ble_eq_true rfl⟩ hl.1 (Nat.le_of_ble_eq_true rfl) dL_law_677 ⟨by show cells + 0 ≤ 613125; omega, by show slots + 0 ≤ 7262874; omega⟩) (fun H locs w => ?_)
  have w : WD G (LwA s) (w_PL G ad kad cad I R WI WA GI GA LI LA LJ nK nC KI KA CK CD ++ w_X6 G am Mi Ma Mj) s H locs := w.eqw (by rw [List.append_nil])
  refine lv_icmp_eq (tgt := 887) hx hb dL_law_680 (by decide) (fun _ => ?_) (fun z => absurd rfl z)
  refine W.widen (k := cells + 5) (n := slots + 31) (by show cells ≤ cells + 5; omega) (by show slots ≤ slots + 31; omega) ?_
  exact kk _ _ ⟨ad, kad, cad, am, I, R, WI, WA, GI, GA, LI, LA, LJ, nK, nC, KI, KA, CK, CD, Mi, Ma, Mj, rfl, rfl, hR, w⟩
set_option maxHeartbeats 4000000 in
set_option maxRecDepth 100000 in
theorem law_told (C : CX p m meth c s #[.ref b] yL_law code 4 (some .boolean)) (hX : va_X b L xs s s.heap) (hbl : b < s.heap.size) (hi : i + 3 < L) (hL : L ≤ 2048) (hl : lv_has ls 4 [(3, .int (nI i)), (2, .ref q2), (1, .ref q1), (0, .ref b)]) (hce : cells + 5 ≤ 613125) (hsl : slots + 31 ≤ 7262874) (hV : LInv G s q1 q2 H locs) (kk : ∀ (H1 : Heap) (locs1 : List Loc), LInv G s q1 q2 H1 locs1 → W p l e room_1 s m #[.ref b] below meth c H1 locs1 (cells + 5) (slots + 31) Q (F0 m 887 ls [])) : W p l e room_1 s m #[.ref b] below meth c H locs cells slots Q (F0 m 685 ls []) := by
  obtain ⟨ad, kad, cad, am, I, R, WI, WA, GI, GA, LI, LA, LJ, nK, nC, KI, KA, CK, CD, Mi, Ma, Mj, had, ham, hR, w⟩ := hV
  subst had; subst ham
  obtain ⟨hI6, hn4, hI7, hn16, hCK⟩ := Rel_ns hR
  have hx := C.1
  have hb := C.2.1
  have hbA : ¬ LwA s b := Nat.not_le.mpr hbl
  have in1 : vp_in (nI i + 1) L := by rw [xa1]; exact vp_in_nI (by omega) (by omega)
  have in2 : vp_in (nI i + 2) L := by rw [xa2]; exact vp_in_nI (by omega) (by omega)
  refine lv_aload_n hx hb dL_law_685 rfl (lv_at hl 2 rfl) ?_
  refine lv_aload_n hx hb dL_law_686 rfl (lv_at hl 3 rfl) ?_
  refine lv_iload_n hx hb dL_law_687 rfl (lv_at hl 0 rfl) ?_
  refine lv_iconst (v := 1) hx hb dL_law_688 (by decide) ?_
  refine lv_iadd hx hb dL_law_689 ?_
  refine va_sld hx hb hX hbl hbA w.2.2.1 in1 dL_law_690 ?_
  refine lv_aload_n hx hb dL_law_691 rfl (lv_at hl 3 rfl) ?_
  refine lv_iload_n hx hb dL_law_692 rfl (lv_at hl 0 rfl) ?_
  refine lv_iconst (v := 2) hx hb dL_law_693 (by decide) ?_
  refine lv_iadd hx hb dL_law_694 ?_
  refine va_sld hx hb hX hbl hbA w.2.2.1 in2 dL_law_695 ?_
  obtain ⟨r, e1, e2⟩ := m_told (N := 250) (Nat.le_refl 250) (xs (nI i + 1).toNatClampNeg) (xs (nI i + 2).toNatClampNeg) hR
  have w0 : WD G (LwA s) ([] ++ (w_X5 G ad I R WI WA GI GA LI LA LJ ++ (plT G ad kad cad nK nC KI KA CK CD ++ w_X6 G am Mi Ma Mj))) s _ _ := w.eqw (show w_PL G ad kad cad I R WI WA GI GA LI LA LJ nK nC KI KA CK CD ++ w_X6 G am Mi Ma Mj = [] ++ (w_X5 G ad I R WI WA GI GA LI LA LJ ++ (plT G ad kad cad nK nC KI KA CK CD ++ w_X6 G am Mi Ma Mj)) from List.append_assoc (w_X5 G ad I R WI WA GI GA LI LA LJ) (plT G ad kad cad nK nC KI KA CK CD) (w_X6 G am Mi Ma Mj))
  refine cl_i (wc' := w_X5 G ad I R WI WA GI GA LI LA LJ) w0 (run_V (As := [.int (xs (nI i + 1).toNatClampNeg), .int (xs (nI i + 2).toNatClampNeg)]) (rest := []) C w0 (c_X5_told l G ad _ _ _ _ _ _ _ _ _ _ _ _ _ _ e1) mt_X5_told tt_495 5 rfl rfl rfl rfl ⟨Nat.le_of_ble_eq_true rfl, Nat.le_of_ble_eq_true rfl⟩ hl.1 (Nat.le_of_ble_eq_true rfl) dL_law_696 ⟨by show cells + 0 ≤ 613125; omega, by show slots + 0 ≤ 7262874; omega⟩) (fun H locs w => ?_)
  have w : WD G (LwA s) (w_PL G ad kad cad I R WI WA GI GA LI LA LJ nK nC KI KA CK CD ++ w_X6 G am Mi Ma Mj) s H locs := w.eqw (show [] ++ (w_X5 G ad I R WI WA GI GA LI LA LJ ++ (plT G ad kad cad nK nC KI KA CK CD ++ w_X6 G am Mi Ma Mj)) = w_PL G ad kad cad I R WI WA GI GA LI LA LJ nK nC KI KA CK CD ++ w_X6 G am Mi Ma Mj from (List.append_assoc (w_X5 G ad I R WI WA GI GA LI LA LJ) (plT G ad kad cad nK nC KI KA CK CD) (w_X6 G am Mi Ma Mj)).symm)
  refine lv_aload_n hx hb dL_law_699 rfl (lv_at hl 1 rfl) ?_
  refine lv_aload_n hx hb dL_law_700 rfl (lv_at hl 3 rfl) ?_
  refine lv_iload_n hx hb dL_law_701 rfl (lv_at hl 0 rfl) ?_
  refine lv_iconst (v := 1) hx hb dL_law_702 (by decide) ?_
  refine lv_iadd hx hb dL_law_703 ?_
  refine va_sld hx hb hX hbl hbA w.2.2.1 in1 dL_law_704 ?_
  refine lv_aload_n hx hb dL_law_705 rfl (lv_at hl 3 rfl) ?_
  refine lv_iload_n hx hb dL_law_706 rfl (lv_at hl 0 rfl) ?_
  refine lv_iconst (v := 2) hx hb dL_law_707 (by decide) ?_
  refine lv_iadd hx hb dL_law_708 ?_
  refine va_sld hx hb hX hbl hbA w.2.2.1 in2 dL_law_709 ?_
  have w0 : WD G (LwA s) (w_PL G ad kad cad I R WI WA GI GA LI LA LJ nK nC KI KA CK CD ++ (w_X6 G am Mi Ma Mj ++ [])) s _ _ := w.eqw (by rw [List.append_nil])
  refine cl_i (wc' := w_X6 G am Mi Ma Mj) w0 (run_V (As := [.int (xs (nI i + 1).toNatClampNeg), .int (xs (nI i + 2).toNatClampNeg)]) (rest := [.int r]) C w0 (c_X6_told l G am _ _ _ _ _ _ _ _ e2) mt_X6_told tt_766 6 rfl rfl rfl rfl ⟨Nat.le_of_ble_eq_true rfl, Nat.le_of_ble_eq_true rfl⟩ hl.1 (Nat.le_of_ble_eq_true rfl) dL_law_710 ⟨by show cells + 0 ≤ 613125; omega, by show slots + 0 ≤ 7262874; omega⟩) (fun H locs w => ?_)
  have w : WD G (LwA s) (w_PL G ad kad cad I R WI WA GI GA LI LA LJ nK nC KI KA CK CD ++ w_X6 G am Mi Ma Mj) s H locs := w.eqw (by rw [List.append_nil])
  refine lv_icmp_eq (tgt := 887) hx hb dL_law_713 (by decide) (fun _ => ?_) (fun z => absurd rfl z)
  refine W.widen (k := cells + 5) (n := slots + 31) (by show cells ≤ cells + 5; omega) (by show slots ≤ slots + 31; omega) ?_
  exact kk _ _ ⟨ad, kad, cad, am, I, R, WI, WA, GI, GA, LI, LA, LJ, nK, nC, KI, KA, CK, CD, Mi, Ma, Mj, rfl, rfl, hR, w⟩
set_option maxHeartbeats 4000000 in
set_option maxRecDepth 100000 in
theorem law_glassTold (C : CX p m meth c s #[.ref b] yL_law code 4 (some .boolean)) (hX : va_X b L xs s s.heap) (hbl : b < s.heap.size) (hi : i + 3 < L) (hL : L ≤ 2048) (hl : lv_has ls 4 [(3, .int (nI i)), (2, .ref q2), (1, .ref q1), (0, .ref b)]) (hce : cells + 5 ≤ 613125) (hsl : slots + 31 ≤ 7262874) (hV : LInv G s q1 q2 H locs) (kk : ∀ (H1 : Heap) (locs1 : List Loc), LInv G s q1 q2 H1 locs1 → W p l e room_1 s m #[.ref b] below meth c H1 locs1 (cells + 5) (slots + 31) Q (F0 m 887 ls [])) : W p l e room_1 s m #[.ref b] below meth c H locs cells slots Q (F0 m 718 ls []) := by
  obtain ⟨ad, kad, cad, am, I, R, WI, WA, GI, GA, LI, LA, LJ, nK, nC, KI, KA, CK, CD, Mi, Ma, Mj, had, ham, hR, w⟩ := hV
  subst had; subst ham
  obtain ⟨hI6, hn4, hI7, hn16, hCK⟩ := Rel_ns hR
  have hx := C.1
  have hb := C.2.1
  have hbA : ¬ LwA s b := Nat.not_le.mpr hbl
  have in1 : vp_in (nI i + 1) L := by rw [xa1]; exact vp_in_nI (by omega) (by omega)
  have in2 : vp_in (nI i + 2) L := by rw [xa2]; exact vp_in_nI (by omega) (by omega)
  refine lv_aload_n hx hb dL_law_718 rfl (lv_at hl 2 rfl) ?_
  refine lv_aload_n hx hb dL_law_719 rfl (lv_at hl 3 rfl) ?_
  refine lv_iload_n hx hb dL_law_720 rfl (lv_at hl 0 rfl) ?_
  refine lv_iconst (v := 1) hx hb dL_law_721 (by decide) ?_
  refine lv_iadd hx hb dL_law_722 ?_
  refine va_sld hx hb hX hbl hbA w.2.2.1 in1 dL_law_723 ?_
  refine lv_aload_n hx hb dL_law_724 rfl (lv_at hl 3 rfl) ?_
  refine lv_iload_n hx hb dL_law_725 rfl (lv_at hl 0 rfl) ?_
  refine lv_iconst (v := 2) hx hb dL_law_726 (by decide) ?_
  refine lv_iadd hx hb dL_law_727 ?_
  refine va_sld hx hb hX hbl hbA w.2.2.1 in2 dL_law_728 ?_
  obtain ⟨r, e1, e2⟩ := m_glassTold (xs (nI i + 1).toNatClampNeg) (xs (nI i + 2).toNatClampNeg) hR
  have w0 : WD G (LwA s) ([] ++ (w_X5 G ad I R WI WA GI GA LI LA LJ ++ (plT G ad kad cad nK nC KI KA CK CD ++ w_X6 G am Mi Ma Mj))) s _ _ := w.eqw (show w_PL G ad kad cad I R WI WA GI GA LI LA LJ nK nC KI KA CK CD ++ w_X6 G am Mi Ma Mj = [] ++ (w_X5 G ad I R WI WA GI GA LI LA LJ ++ (plT G ad kad cad nK nC KI KA CK CD ++ w_X6 G am Mi Ma Mj)) from List.append_assoc (w_X5 G ad I R WI WA GI GA LI LA LJ) (plT G ad kad cad nK nC KI KA CK CD) (w_X6 G am Mi Ma Mj))
  refine cl_i (wc' := w_X5 G ad I R WI WA GI GA LI LA LJ) w0 (run_V (As := [.int (xs (nI i + 1).toNatClampNeg), .int (xs (nI i + 2).toNatClampNeg)]) (rest := []) C w0 (c_X5_glassTold l G ad _ _ _ _ _ _ _ _ _ _ _ _ _ e1) mt_X5_glassTold tt_499 5 rfl rfl rfl rfl ⟨Nat.le_of_ble_eq_true rfl, Nat.le_of_ble_eq_true rfl⟩ hl.1 (Nat.le_of_ble_eq_true rfl) dL_law_729 ⟨by show cells + 0 ≤ 613125; omega, by show slots + 0 ≤ 7262874; omega⟩) (fun H locs w => ?_)
  have w : WD G (LwA s) (w_PL G ad kad cad I R WI WA GI GA LI LA LJ nK nC KI KA CK CD ++ w_X6 G am Mi Ma Mj) s H locs := w.eqw (show [] ++ (w_X5 G ad I R WI WA GI GA LI LA LJ ++ (plT G ad kad cad nK nC KI KA CK CD ++ w_X6 G am Mi Ma Mj)) = w_PL G ad kad cad I R WI WA GI GA LI LA LJ nK nC KI KA CK CD ++ w_X6 G am Mi Ma Mj from (List.append_assoc (w_X5 G ad I R WI WA GI GA LI LA LJ) (plT G ad kad cad nK nC KI KA CK CD) (w_X6 G am Mi Ma Mj)).symm)
  refine lv_aload_n hx hb dL_law_732 rfl (lv_at hl 1 rfl) ?_
  refine lv_aload_n hx hb dL_law_733 rfl (lv_at hl 3 rfl) ?_
  refine lv_iload_n hx hb dL_law_734 rfl (lv_at hl 0 rfl) ?_
  refine lv_iconst (v := 1) hx hb dL_law_735 (by decide) ?_
  refine lv_iadd hx hb dL_law_736 ?_
  refine va_sld hx hb hX hbl hbA w.2.2.1 in1 dL_law_737 ?_
  refine lv_aload_n hx hb dL_law_738 rfl (lv_at hl 3 rfl) ?_
  refine lv_iload_n hx hb dL_law_739 rfl (lv_at hl 0 rfl) ?_
  refine lv_iconst (v := 2) hx hb dL_law_740 (by decide) ?_
  refine lv_iadd hx hb dL_law_741 ?_
  refine va_sld hx hb hX hbl hbA w.2.2.1 in2 dL_law_742 ?_
  have w0 : WD G (LwA s) (w_PL G ad kad cad I R WI WA GI GA LI LA LJ nK nC KI KA CK CD ++ (w_X6 G am Mi Ma Mj ++ [])) s _ _ := w.eqw (by rw [List.append_nil])
  refine cl_i (wc' := w_X6 G am Mi Ma Mj) w0 (run_V (As := [.int (xs (nI i + 1).toNatClampNeg), .int (xs (nI i + 2).toNatClampNeg)]) (rest := [.int r]) C w0 (c_X6_glassTold l G am _ _ _ _ _ _ _ e2) mt_X6_glassTold tt_770 6 rfl rfl rfl rfl ⟨Nat.le_of_ble_eq_true rfl, Nat.le_of_ble_eq_true rfl⟩ hl.1 (Nat.le_of_ble_eq_true rfl) dL_law_743 ⟨by show cells + 0 ≤ 613125; omega, by show slots + 0 ≤ 7262874; omega⟩) (fun H locs w => ?_)
  have w : WD G (LwA s) (w_PL G ad kad cad I R WI WA GI GA LI LA LJ nK nC KI KA CK CD ++ w_X6 G am Mi Ma Mj) s H locs := w.eqw (by rw [List.append_nil])
  refine lv_icmp_eq (tgt := 887) hx hb dL_law_746 (by decide) (fun _ => ?_) (fun z => absurd rfl z)
  refine W.widen (k := cells + 5) (n := slots + 31) (by show cells ≤ cells + 5; omega) (by show slots ≤ slots + 31; omega) ?_
  exact kk _ _ ⟨ad, kad, cad, am, I, R, WI, WA, GI, GA, LI, LA, LJ, nK, nC, KI, KA, CK, CD, Mi, Ma, Mj, rfl, rfl, hR, w⟩
set_option maxHeartbeats 4000000 in
set_option maxRecDepth 100000 in
theorem law_entry (C : CX p m meth c s #[.ref b] yL_law code 4 (some .boolean)) (hX : va_X b L xs s s.heap) (hbl : b < s.heap.size) (hi : i + 3 < L) (hL : L ≤ 2048) (hl : lv_has ls 4 [(3, .int (nI i)), (2, .ref q2), (1, .ref q1), (0, .ref b)]) (hce : cells + 5 ≤ 613125) (hsl : slots + 31 ≤ 7262874) (hV : LInv G s q1 q2 H locs) (kk : ∀ (H1 : Heap) (locs1 : List Loc), LInv G s q1 q2 H1 locs1 → W p l e room_1 s m #[.ref b] below meth c H1 locs1 (cells + 5) (slots + 31) Q (F0 m 887 ls [])) : W p l e room_1 s m #[.ref b] below meth c H locs cells slots Q (F0 m 751 ls []) := by
  obtain ⟨ad, kad, cad, am, I, R, WI, WA, GI, GA, LI, LA, LJ, nK, nC, KI, KA, CK, CD, Mi, Ma, Mj, had, ham, hR, w⟩ := hV
  subst had; subst ham
  obtain ⟨hI6, hn4, hI7, hn16, hCK⟩ := Rel_ns hR
  have hx := C.1
  have hb := C.2.1
  have hbA : ¬ LwA s b := Nat.not_le.mpr hbl
  have in1 : vp_in (nI i + 1) L := by rw [xa1]; exact vp_in_nI (by omega) (by omega)
  have in2 : vp_in (nI i + 2) L := by rw [xa2]; exact vp_in_nI (by omega) (by omega)
  refine lv_aload_n hx hb dL_law_751 rfl (lv_at hl 2 rfl) ?_
  refine lv_aload_n hx hb dL_law_752 rfl (lv_at hl 3 rfl) ?_
  refine lv_iload_n hx hb dL_law_753 rfl (lv_at hl 0 rfl) ?_
  refine lv_iconst (v := 1) hx hb dL_law_754 (by decide) ?_
  refine lv_iadd hx hb dL_law_755 ?_
  refine va_sld hx hb hX hbl hbA w.2.2.1 in1 dL_law_756 ?_
  refine lv_aload_n hx hb dL_law_757 rfl (lv_at hl 3 rfl) ?_
  refine lv_iload_n hx hb dL_law_758 rfl (lv_at hl 0 rfl) ?_
  refine lv_iconst (v := 2) hx hb dL_law_759 (by decide) ?_
  refine lv_iadd hx hb dL_law_760 ?_
  refine va_sld hx hb hX hbl hbA w.2.2.1 in2 dL_law_761 ?_
  obtain ⟨r, e1, e2⟩ := m_entry (xs (nI i + 1).toNatClampNeg) (xs (nI i + 2).toNatClampNeg) hR
  have w0 : WD G (LwA s) ([] ++ (w_X5 G ad I R WI WA GI GA LI LA LJ ++ (plT G ad kad cad nK nC KI KA CK CD ++ w_X6 G am Mi Ma Mj))) s _ _ := w.eqw (show w_PL G ad kad cad I R WI WA GI GA LI LA LJ nK nC KI KA CK CD ++ w_X6 G am Mi Ma Mj = [] ++ (w_X5 G ad I R WI WA GI GA LI LA LJ ++ (plT G ad kad cad nK nC KI KA CK CD ++ w_X6 G am Mi Ma Mj)) from List.append_assoc (w_X5 G ad I R WI WA GI GA LI LA LJ) (plT G ad kad cad nK nC KI KA CK CD) (w_X6 G am Mi Ma Mj))
  refine cl_i (wc' := w_X5 G ad I R WI WA GI GA LI LA LJ) w0 (run_V (As := [.int (xs (nI i + 1).toNatClampNeg), .int (xs (nI i + 2).toNatClampNeg)]) (rest := []) C w0 (c_X5_entry l G ad _ _ _ _ _ _ _ _ _ _ _ _ _ e1) mt_X5_entry tt_504 5 rfl rfl rfl rfl ⟨Nat.le_of_ble_eq_true rfl, Nat.le_of_ble_eq_true rfl⟩ hl.1 (Nat.le_of_ble_eq_true rfl) dL_law_762 ⟨by show cells + 0 ≤ 613125; omega, by show slots + 0 ≤ 7262874; omega⟩) (fun H locs w => ?_)
  have w : WD G (LwA s) (w_PL G ad kad cad I R WI WA GI GA LI LA LJ nK nC KI KA CK CD ++ w_X6 G am Mi Ma Mj) s H locs := w.eqw (show [] ++ (w_X5 G ad I R WI WA GI GA LI LA LJ ++ (plT G ad kad cad nK nC KI KA CK CD ++ w_X6 G am Mi Ma Mj)) = w_PL G ad kad cad I R WI WA GI GA LI LA LJ nK nC KI KA CK CD ++ w_X6 G am Mi Ma Mj from (List.append_assoc (w_X5 G ad I R WI WA GI GA LI LA LJ) (plT G ad kad cad nK nC KI KA CK CD) (w_X6 G am Mi Ma Mj)).symm)
  refine lv_aload_n hx hb dL_law_765 rfl (lv_at hl 1 rfl) ?_
  refine lv_aload_n hx hb dL_law_766 rfl (lv_at hl 3 rfl) ?_
  refine lv_iload_n hx hb dL_law_767 rfl (lv_at hl 0 rfl) ?_
  refine lv_iconst (v := 1) hx hb dL_law_768 (by decide) ?_
  refine lv_iadd hx hb dL_law_769 ?_
  refine va_sld hx hb hX hbl hbA w.2.2.1 in1 dL_law_770 ?_
  refine lv_aload_n hx hb dL_law_771 rfl (lv_at hl 3 rfl) ?_
  refine lv_iload_n hx hb dL_law_772 rfl (lv_at hl 0 rfl) ?_
  refine lv_iconst (v := 2) hx hb dL_law_773 (by decide) ?_
  refine lv_iadd hx hb dL_law_774 ?_
  refine va_sld hx hb hX hbl hbA w.2.2.1 in2 dL_law_775 ?_
  have w0 : WD G (LwA s) (w_PL G ad kad cad I R WI WA GI GA LI LA LJ nK nC KI KA CK CD ++ (w_X6 G am Mi Ma Mj ++ [])) s _ _ := w.eqw (by rw [List.append_nil])
  refine cl_i (wc' := w_X6 G am Mi Ma Mj) w0 (run_V (As := [.int (xs (nI i + 1).toNatClampNeg), .int (xs (nI i + 2).toNatClampNeg)]) (rest := [.int r]) C w0 (c_X6_entry l G am _ _ _ _ _ _ _ e2) mt_X6_entry tt_774 6 rfl rfl rfl rfl ⟨Nat.le_of_ble_eq_true rfl, Nat.le_of_ble_eq_true rfl⟩ hl.1 (Nat.le_of_ble_eq_true rfl) dL_law_776 ⟨by show cells + 0 ≤ 613125; omega, by show slots + 0 ≤ 7262874; omega⟩) (fun H locs w => ?_)
  have w : WD G (LwA s) (w_PL G ad kad cad I R WI WA GI GA LI LA LJ nK nC KI KA CK CD ++ w_X6 G am Mi Ma Mj) s H locs := w.eqw (by rw [List.append_nil])
  refine lv_icmp_eq (tgt := 887) hx hb dL_law_779 (by decide) (fun _ => ?_) (fun z => absurd rfl z)
  refine W.widen (k := cells + 5) (n := slots + 31) (by show cells ≤ cells + 5; omega) (by show slots ≤ slots + 31; omega) ?_
  exact kk _ _ ⟨ad, kad, cad, am, I, R, WI, WA, GI, GA, LI, LA, LJ, nK, nC, KI, KA, CK, CD, Mi, Ma, Mj, rfl, rfl, hR, w⟩
set_option maxHeartbeats 4000000 in
set_option maxRecDepth 100000 in
theorem law_link (C : CX p m meth c s #[.ref b] yL_law code 4 (some .boolean)) (hX : va_X b L xs s s.heap) (hbl : b < s.heap.size) (hi : i + 3 < L) (hL : L ≤ 2048) (hl : lv_has ls 4 [(3, .int (nI i)), (2, .ref q2), (1, .ref q1), (0, .ref b)]) (hce : cells + 5 ≤ 613125) (hsl : slots + 31 ≤ 7262874) (hV : LInv G s q1 q2 H locs) (kk : ∀ (H1 : Heap) (locs1 : List Loc), LInv G s q1 q2 H1 locs1 → W p l e room_1 s m #[.ref b] below meth c H1 locs1 (cells + 5) (slots + 31) Q (F0 m 887 ls [])) : W p l e room_1 s m #[.ref b] below meth c H locs cells slots Q (F0 m 784 ls []) := by
  obtain ⟨ad, kad, cad, am, I, R, WI, WA, GI, GA, LI, LA, LJ, nK, nC, KI, KA, CK, CD, Mi, Ma, Mj, had, ham, hR, w⟩ := hV
  subst had; subst ham
  obtain ⟨hI6, hn4, hI7, hn16, hCK⟩ := Rel_ns hR
  have hx := C.1
  have hb := C.2.1
  have hbA : ¬ LwA s b := Nat.not_le.mpr hbl
  have in1 : vp_in (nI i + 1) L := by rw [xa1]; exact vp_in_nI (by omega) (by omega)
  refine lv_aload_n hx hb dL_law_784 rfl (lv_at hl 2 rfl) ?_
  refine lv_aload_n hx hb dL_law_785 rfl (lv_at hl 3 rfl) ?_
  refine lv_iload_n hx hb dL_law_786 rfl (lv_at hl 0 rfl) ?_
  refine lv_iconst (v := 1) hx hb dL_law_787 (by decide) ?_
  refine lv_iadd hx hb dL_law_788 ?_
  refine va_sld hx hb hX hbl hbA w.2.2.1 in1 dL_law_789 ?_
  obtain ⟨r, e1, e2⟩ := m_link (xs (nI i + 1).toNatClampNeg) hR
  have w0 : WD G (LwA s) ([] ++ (w_X5 G ad I R WI WA GI GA LI LA LJ ++ (plT G ad kad cad nK nC KI KA CK CD ++ w_X6 G am Mi Ma Mj))) s _ _ := w.eqw (show w_PL G ad kad cad I R WI WA GI GA LI LA LJ nK nC KI KA CK CD ++ w_X6 G am Mi Ma Mj = [] ++ (w_X5 G ad I R WI WA GI GA LI LA LJ ++ (plT G ad kad cad nK nC KI KA CK CD ++ w_X6 G am Mi Ma Mj)) from List.append_assoc (w_X5 G ad I R WI WA GI GA LI LA LJ) (plT G ad kad cad nK nC KI KA CK CD) (w_X6 G am Mi Ma Mj))
  refine cl_l (wc' := w_X5 G ad I R WI WA GI GA LI LA LJ) w0 (run_V (As := [.int (xs (nI i + 1).toNatClampNeg)]) (rest := []) C w0 (c_X5_link l G ad _ _ _ _ _ _ _ _ _ _ _ _ e1) mt_X5_link tt_517 5 rfl rfl rfl rfl ⟨Nat.le_of_ble_eq_true rfl, Nat.le_of_ble_eq_true rfl⟩ hl.1 (Nat.le_of_ble_eq_true rfl) dL_law_790 ⟨by show cells + 0 ≤ 613125; omega, by show slots + 0 ≤ 7262874; omega⟩) (fun H locs w => ?_)
  have w : WD G (LwA s) (w_PL G ad kad cad I R WI WA GI GA LI LA LJ nK nC KI KA CK CD ++ w_X6 G am Mi Ma Mj) s H locs := w.eqw (show [] ++ (w_X5 G ad I R WI WA GI GA LI LA LJ ++ (plT G ad kad cad nK nC KI KA CK CD ++ w_X6 G am Mi Ma Mj)) = w_PL G ad kad cad I R WI WA GI GA LI LA LJ nK nC KI KA CK CD ++ w_X6 G am Mi Ma Mj from (List.append_assoc (w_X5 G ad I R WI WA GI GA LI LA LJ) (plT G ad kad cad nK nC KI KA CK CD) (w_X6 G am Mi Ma Mj)).symm)
  refine lv_aload_n hx hb dL_law_793 rfl (lv_at hl 1 rfl) ?_
  refine lv_aload_n hx hb dL_law_794 rfl (lv_at hl 3 rfl) ?_
  refine lv_iload_n hx hb dL_law_795 rfl (lv_at hl 0 rfl) ?_
  refine lv_iconst (v := 1) hx hb dL_law_796 (by decide) ?_
  refine lv_iadd hx hb dL_law_797 ?_
  refine va_sld hx hb hX hbl hbA w.2.2.1 in1 dL_law_798 ?_
  have w0 : WD G (LwA s) (w_PL G ad kad cad I R WI WA GI GA LI LA LJ nK nC KI KA CK CD ++ (w_X6 G am Mi Ma Mj ++ [])) s _ _ := w.eqw (by rw [List.append_nil])
  refine cl_l (wc' := w_X6 G am Mi Ma Mj) w0 (run_V (As := [.int (xs (nI i + 1).toNatClampNeg)]) (rest := [.long r]) C w0 (c_X6_link l G am _ _ _ _ _ _ e2) mt_X6_link tt_778 6 rfl rfl rfl rfl ⟨Nat.le_of_ble_eq_true rfl, Nat.le_of_ble_eq_true rfl⟩ hl.1 (Nat.le_of_ble_eq_true rfl) dL_law_799 ⟨by show cells + 0 ≤ 613125; omega, by show slots + 0 ≤ 7262874; omega⟩) (fun H locs w => ?_)
  have w : WD G (LwA s) (w_PL G ad kad cad I R WI WA GI GA LI LA LJ nK nC KI KA CK CD ++ w_X6 G am Mi Ma Mj) s H locs := w.eqw (by rw [List.append_nil])
  refine W.lcmp hx hb dL_law_802 ?_
  refine lv_if_eq (tgt := 887) hx hb dL_law_803 (by decide) (fun _ => ?_) (fun z => absurd ((lg0 _ _).mpr rfl) z)
  refine W.widen (k := cells + 5) (n := slots + 31) (by show cells ≤ cells + 5; omega) (by show slots ≤ slots + 31; omega) ?_
  exact kk _ _ ⟨ad, kad, cad, am, I, R, WI, WA, GI, GA, LI, LA, LJ, nK, nC, KI, KA, CK, CD, Mi, Ma, Mj, rfl, rfl, hR, w⟩
set_option maxHeartbeats 4000000 in
set_option maxRecDepth 100000 in
theorem law_alter (C : CX p m meth c s #[.ref b] yL_law code 4 (some .boolean)) (hX : va_X b L xs s s.heap) (hbl : b < s.heap.size) (hi : i + 3 < L) (hL : L ≤ 2048) (hl : lv_has ls 4 [(3, .int (nI i)), (2, .ref q2), (1, .ref q1), (0, .ref b)]) (hce : cells + 5 ≤ 613125) (hsl : slots + 31 ≤ 7262874) (hV : LInv G s q1 q2 H locs) (kk : ∀ (H1 : Heap) (locs1 : List Loc), LInv G s q1 q2 H1 locs1 → W p l e room_1 s m #[.ref b] below meth c H1 locs1 (cells + 5) (slots + 31) Q (F0 m 887 ls [])) : W p l e room_1 s m #[.ref b] below meth c H locs cells slots Q (F0 m 808 ls []) := by
  obtain ⟨ad, kad, cad, am, I, R, WI, WA, GI, GA, LI, LA, LJ, nK, nC, KI, KA, CK, CD, Mi, Ma, Mj, had, ham, hR, w⟩ := hV
  subst had; subst ham
  obtain ⟨hI6, hn4, hI7, hn16, hCK⟩ := Rel_ns hR
  have hx := C.1
  have hb := C.2.1
  have hbA : ¬ LwA s b := Nat.not_le.mpr hbl
  have in1 : vp_in (nI i + 1) L := by rw [xa1]; exact vp_in_nI (by omega) (by omega)
  have in2 : vp_in (nI i + 2) L := by rw [xa2]; exact vp_in_nI (by omega) (by omega)
  have in3 : vp_in (nI i + 3) L := by rw [xa3]; exact vp_in_nI (by omega) (by omega)
  refine lv_aload_n hx hb dL_law_808 rfl (lv_at hl 2 rfl) ?_
  refine lv_aload_n hx hb dL_law_809 rfl (lv_at hl 3 rfl) ?_
  refine lv_iload_n hx hb dL_law_810 rfl (lv_at hl 0 rfl) ?_
  refine lv_iconst (v := 1) hx hb dL_law_811 (by decide) ?_
  refine lv_iadd hx hb dL_law_812 ?_
  refine va_sld hx hb hX hbl hbA w.2.2.1 in1 dL_law_813 ?_
  refine lv_aload_n hx hb dL_law_814 rfl (lv_at hl 3 rfl) ?_
  refine lv_iload_n hx hb dL_law_815 rfl (lv_at hl 0 rfl) ?_
  refine lv_iconst (v := 2) hx hb dL_law_816 (by decide) ?_
  refine lv_iadd hx hb dL_law_817 ?_
  refine va_sld hx hb hX hbl hbA w.2.2.1 in2 dL_law_818 ?_
  refine lv_aload_n hx hb dL_law_819 rfl (lv_at hl 3 rfl) ?_
  refine lv_iload_n hx hb dL_law_820 rfl (lv_at hl 0 rfl) ?_
  refine lv_iconst (v := 3) hx hb dL_law_821 (by decide) ?_
  refine lv_iadd hx hb dL_law_822 ?_
  refine va_sld hx hb hX hbl hbA w.2.2.1 in3 dL_law_823 ?_
  obtain ⟨r, I', R', WI', WA', GI', GA', LI', LA', LJ', Mi', Ma', Mj', e1, e2, hR'⟩ := m_alter (xs (nI i + 1).toNatClampNeg) (xs (nI i + 2).toNatClampNeg) (xs (nI i + 3).toNatClampNeg) hR
  have w0 : WD G (LwA s) ([] ++ (w_X5 G ad I R WI WA GI GA LI LA LJ ++ (plT G ad kad cad nK nC KI KA CK CD ++ w_X6 G am Mi Ma Mj))) s _ _ := w.eqw (show w_PL G ad kad cad I R WI WA GI GA LI LA LJ nK nC KI KA CK CD ++ w_X6 G am Mi Ma Mj = [] ++ (w_X5 G ad I R WI WA GI GA LI LA LJ ++ (plT G ad kad cad nK nC KI KA CK CD ++ w_X6 G am Mi Ma Mj)) from List.append_assoc (w_X5 G ad I R WI WA GI GA LI LA LJ) (plT G ad kad cad nK nC KI KA CK CD) (w_X6 G am Mi Ma Mj))
  refine cl_i (wc' := w_X5 G ad (I') (R') (WI') (WA') (GI') (GA') (LI') (LA') (LJ')) w0 (run_V (As := [.int (xs (nI i + 1).toNatClampNeg), .int (xs (nI i + 2).toNatClampNeg), .int (xs (nI i + 3).toNatClampNeg)]) (rest := []) C w0 (c_X5_alter l G ad _ _ _ _ _ _ _ _ _ _ _ _ _ _ _ _ _ _ _ _ _ _ _ e1) mt_X5_alter tt_522 5 rfl rfl rfl rfl ⟨Nat.le_of_ble_eq_true rfl, Nat.le_of_ble_eq_true rfl⟩ hl.1 (Nat.le_of_ble_eq_true rfl) dL_law_824 ⟨by show cells + 0 ≤ 613125; omega, by show slots + 0 ≤ 7262874; omega⟩) (fun H locs w => ?_)
  have w : WD G (LwA s) (w_PL G ad kad cad (I') (R') (WI') (WA') (GI') (GA') (LI') (LA') (LJ') nK nC KI KA CK CD ++ w_X6 G am Mi Ma Mj) s H locs := w.eqw (show [] ++ (w_X5 G ad (I') (R') (WI') (WA') (GI') (GA') (LI') (LA') (LJ') ++ (plT G ad kad cad nK nC KI KA CK CD ++ w_X6 G am Mi Ma Mj)) = w_PL G ad kad cad (I') (R') (WI') (WA') (GI') (GA') (LI') (LA') (LJ') nK nC KI KA CK CD ++ w_X6 G am Mi Ma Mj from (List.append_assoc (w_X5 G ad (I') (R') (WI') (WA') (GI') (GA') (LI') (LA') (LJ')) (plT G ad kad cad nK nC KI KA CK CD) (w_X6 G am Mi Ma Mj)).symm)
  refine lv_aload_n hx hb dL_law_827 rfl (lv_at hl 1 rfl) ?_
  refine lv_aload_n hx hb dL_law_828 rfl (lv_at hl 3 rfl) ?_
  refine lv_iload_n hx hb dL_law_829 rfl (lv_at hl 0 rfl) ?_
  refine lv_iconst (v := 1) hx hb dL_law_830 (by decide) ?_
  refine lv_iadd hx hb dL_law_831 ?_
  refine va_sld hx hb hX hbl hbA w.2.2.1 in1 dL_law_832 ?_
  refine lv_aload_n hx hb dL_law_833 rfl (lv_at hl 3 rfl) ?_
  refine lv_iload_n hx hb dL_law_834 rfl (lv_at hl 0 rfl) ?_
  refine lv_iconst (v := 2) hx hb dL_law_835 (by decide) ?_
  refine lv_iadd hx hb dL_law_836 ?_
  refine va_sld hx hb hX hbl hbA w.2.2.1 in2 dL_law_837 ?_
  refine lv_aload_n hx hb dL_law_838 rfl (lv_at hl 3 rfl) ?_
  refine lv_iload_n hx hb dL_law_839 rfl (lv_at hl 0 rfl) ?_
  refine lv_iconst (v := 3) hx hb dL_law_840 (by decide) ?_
  refine lv_iadd hx hb dL_law_841 ?_
  refine va_sld hx hb hX hbl hbA w.2.2.1 in3 dL_law_842 ?_
  have w0 : WD G (LwA s) (w_PL G ad kad cad (I') (R') (WI') (WA') (GI') (GA') (LI') (LA') (LJ') nK nC KI KA CK CD ++ (w_X6 G am Mi Ma Mj ++ [])) s _ _ := w.eqw (by rw [List.append_nil])
  refine cl_i (wc' := w_X6 G am (Mi') (Ma') (Mj')) w0 (run_V (As := [.int (xs (nI i + 1).toNatClampNeg), .int (xs (nI i + 2).toNatClampNeg), .int (xs (nI i + 3).toNatClampNeg)]) (rest := [.int r]) C w0 (c_X6_alter l G am _ _ _ _ _ _ _ _ _ _ _ e2) mt_X6_alter tt_782 6 rfl rfl rfl rfl ⟨Nat.le_of_ble_eq_true rfl, Nat.le_of_ble_eq_true rfl⟩ hl.1 (Nat.le_of_ble_eq_true rfl) dL_law_843 ⟨by show cells + 0 ≤ 613125; omega, by show slots + 0 ≤ 7262874; omega⟩) (fun H locs w => ?_)
  have w : WD G (LwA s) (w_PL G ad kad cad (I') (R') (WI') (WA') (GI') (GA') (LI') (LA') (LJ') nK nC KI KA CK CD ++ w_X6 G am (Mi') (Ma') (Mj')) s H locs := w.eqw (by rw [List.append_nil])
  refine lv_icmp_eq (tgt := 887) hx hb dL_law_846 (by decide) (fun _ => ?_) (fun z => absurd rfl z)
  refine W.widen (k := cells + 5) (n := slots + 31) (by show cells ≤ cells + 5; omega) (by show slots ≤ slots + 31; omega) ?_
  exact kk _ _ ⟨ad, kad, cad, am, I', R', WI', WA', GI', GA', LI', LA', LJ', nK, nC, KI, KA, CK, CD, Mi', Ma', Mj', rfl, rfl, hR', w⟩
set_option maxHeartbeats 4000000 in
set_option maxRecDepth 100000 in
theorem law_check (C : CX p m meth c s #[.ref b] yL_law code 4 (some .boolean)) (hX : va_X b L xs s s.heap) (hbl : b < s.heap.size) (hi : i + 3 < L) (hL : L ≤ 2048) (hl : lv_has ls 4 [(3, .int (nI i)), (2, .ref q2), (1, .ref q1), (0, .ref b)]) (hce : cells + 5 ≤ 613125) (hsl : slots + 31 ≤ 7262874) (hV : LInv G s q1 q2 H locs) (kk : ∀ (H1 : Heap) (locs1 : List Loc), LInv G s q1 q2 H1 locs1 → W p l e room_1 s m #[.ref b] below meth c H1 locs1 (cells + 5) (slots + 31) Q (F0 m 887 ls [])) : W p l e room_1 s m #[.ref b] below meth c H locs cells slots Q (F0 m 851 ls []) := by
  obtain ⟨ad, kad, cad, am, I, R, WI, WA, GI, GA, LI, LA, LJ, nK, nC, KI, KA, CK, CD, Mi, Ma, Mj, had, ham, hR, w⟩ := hV
  subst had; subst ham
  obtain ⟨hI6, hn4, hI7, hn16, hCK⟩ := Rel_ns hR
  have hx := C.1
  have hb := C.2.1
  have hbA : ¬ LwA s b := Nat.not_le.mpr hbl
  refine lv_aload_n hx hb dL_law_851 rfl (lv_at hl 2 rfl) ?_
  obtain ⟨r, e1, e2⟩ := m_check (N := 250) (Nat.le_refl 250)  hR
  have w0 : WD G (LwA s) ([] ++ (w_X5 G ad I R WI WA GI GA LI LA LJ ++ (plT G ad kad cad nK nC KI KA CK CD ++ w_X6 G am Mi Ma Mj))) s _ _ := w.eqw (show w_PL G ad kad cad I R WI WA GI GA LI LA LJ nK nC KI KA CK CD ++ w_X6 G am Mi Ma Mj = [] ++ (w_X5 G ad I R WI WA GI GA LI LA LJ ++ (plT G ad kad cad nK nC KI KA CK CD ++ w_X6 G am Mi Ma Mj)) from List.append_assoc (w_X5 G ad I R WI WA GI GA LI LA LJ) (plT G ad kad cad nK nC KI KA CK CD) (w_X6 G am Mi Ma Mj))
  refine cl_i (wc' := w_X5 G ad I R WI WA GI GA LI LA LJ) w0 (run_V (As := []) (rest := []) C w0 (c_X5_check l G ad _ _ _ _ _ _ _ _ _ _ _ _ e1) mt_X5_check tt_526 5 rfl rfl rfl rfl ⟨Nat.le_of_ble_eq_true rfl, Nat.le_of_ble_eq_true rfl⟩ hl.1 (Nat.le_of_ble_eq_true rfl) dL_law_852 ⟨by show cells + 0 ≤ 613125; omega, by show slots + 0 ≤ 7262874; omega⟩) (fun H locs w => ?_)
  have w : WD G (LwA s) (w_PL G ad kad cad I R WI WA GI GA LI LA LJ nK nC KI KA CK CD ++ w_X6 G am Mi Ma Mj) s H locs := w.eqw (show [] ++ (w_X5 G ad I R WI WA GI GA LI LA LJ ++ (plT G ad kad cad nK nC KI KA CK CD ++ w_X6 G am Mi Ma Mj)) = w_PL G ad kad cad I R WI WA GI GA LI LA LJ nK nC KI KA CK CD ++ w_X6 G am Mi Ma Mj from (List.append_assoc (w_X5 G ad I R WI WA GI GA LI LA LJ) (plT G ad kad cad nK nC KI KA CK CD) (w_X6 G am Mi Ma Mj)).symm)
  refine lv_aload_n hx hb dL_law_855 rfl (lv_at hl 1 rfl) ?_
  have w0 : WD G (LwA s) (w_PL G ad kad cad I R WI WA GI GA LI LA LJ nK nC KI KA CK CD ++ (w_X6 G am Mi Ma Mj ++ [])) s _ _ := w.eqw (by rw [List.append_nil])
  refine cl_i (wc' := w_X6 G am Mi Ma Mj) w0 (run_V (As := []) (rest := [.int r]) C w0 (c_X6_check l G am _ _ _ _ _ _ e2) mt_X6_check tt_786 6 rfl rfl rfl rfl ⟨Nat.le_of_ble_eq_true rfl, Nat.le_of_ble_eq_true rfl⟩ hl.1 (Nat.le_of_ble_eq_true rfl) dL_law_856 ⟨by show cells + 0 ≤ 613125; omega, by show slots + 0 ≤ 7262874; omega⟩) (fun H locs w => ?_)
  have w : WD G (LwA s) (w_PL G ad kad cad I R WI WA GI GA LI LA LJ nK nC KI KA CK CD ++ w_X6 G am Mi Ma Mj) s H locs := w.eqw (by rw [List.append_nil])
  refine lv_icmp_eq (tgt := 887) hx hb dL_law_859 (by decide) (fun _ => ?_) (fun z => absurd rfl z)
  refine W.widen (k := cells + 5) (n := slots + 31) (by show cells ≤ cells + 5; omega) (by show slots ≤ slots + 31; omega) ?_
  exact kk _ _ ⟨ad, kad, cad, am, I, R, WI, WA, GI, GA, LI, LA, LJ, nK, nC, KI, KA, CK, CD, Mi, Ma, Mj, rfl, rfl, hR, w⟩
set_option maxHeartbeats 4000000 in
set_option maxRecDepth 100000 in
theorem law_count (C : CX p m meth c s #[.ref b] yL_law code 4 (some .boolean)) (hX : va_X b L xs s s.heap) (hbl : b < s.heap.size) (hi : i + 3 < L) (hL : L ≤ 2048) (hl : lv_has ls 4 [(3, .int (nI i)), (2, .ref q2), (1, .ref q1), (0, .ref b)]) (hce : cells + 5 ≤ 613125) (hsl : slots + 31 ≤ 7262874) (hV : LInv G s q1 q2 H locs) (kk : ∀ (H1 : Heap) (locs1 : List Loc), LInv G s q1 q2 H1 locs1 → W p l e room_1 s m #[.ref b] below meth c H1 locs1 (cells + 5) (slots + 31) Q (F0 m 887 ls [])) : W p l e room_1 s m #[.ref b] below meth c H locs cells slots Q (F0 m 864 ls []) := by
  obtain ⟨ad, kad, cad, am, I, R, WI, WA, GI, GA, LI, LA, LJ, nK, nC, KI, KA, CK, CD, Mi, Ma, Mj, had, ham, hR, w⟩ := hV
  subst had; subst ham
  obtain ⟨hI6, hn4, hI7, hn16, hCK⟩ := Rel_ns hR
  have hx := C.1
  have hb := C.2.1
  have hbA : ¬ LwA s b := Nat.not_le.mpr hbl
  have in1 : vp_in (nI i + 1) L := by rw [xa1]; exact vp_in_nI (by omega) (by omega)
  refine lv_aload_n hx hb dL_law_864 rfl (lv_at hl 2 rfl) ?_
  refine lv_aload_n hx hb dL_law_865 rfl (lv_at hl 3 rfl) ?_
  refine lv_iload_n hx hb dL_law_866 rfl (lv_at hl 0 rfl) ?_
  refine lv_iconst (v := 1) hx hb dL_law_867 (by decide) ?_
  refine lv_iadd hx hb dL_law_868 ?_
  refine va_sld hx hb hX hbl hbA w.2.2.1 in1 dL_law_869 ?_
  obtain ⟨r, e1, e2⟩ := m_count (xs (nI i + 1).toNatClampNeg) hR
  have w0 : WD G (LwA s) ([] ++ (w_X5 G ad I R WI WA GI GA LI LA LJ ++ (plT G ad kad cad nK nC KI KA CK CD ++ w_X6 G am Mi Ma Mj))) s _ _ := w.eqw (show w_PL G ad kad cad I R WI WA GI GA LI LA LJ nK nC KI KA CK CD ++ w_X6 G am Mi Ma Mj = [] ++ (w_X5 G ad I R WI WA GI GA LI LA LJ ++ (plT G ad kad cad nK nC KI KA CK CD ++ w_X6 G am Mi Ma Mj)) from List.append_assoc (w_X5 G ad I R WI WA GI GA LI LA LJ) (plT G ad kad cad nK nC KI KA CK CD) (w_X6 G am Mi Ma Mj))
  refine cl_i (wc' := w_X5 G ad I R WI WA GI GA LI LA LJ) w0 (run_V (As := [.int (xs (nI i + 1).toNatClampNeg)]) (rest := []) C w0 (c_X5_count l G ad _ _ _ _ _ _ _ _ _ _ _ _ e1) mt_X5_count tt_534 5 rfl rfl rfl rfl ⟨Nat.le_of_ble_eq_true rfl, Nat.le_of_ble_eq_true rfl⟩ hl.1 (Nat.le_of_ble_eq_true rfl) dL_law_870 ⟨by show cells + 0 ≤ 613125; omega, by show slots + 0 ≤ 7262874; omega⟩) (fun H locs w => ?_)
  have w : WD G (LwA s) (w_PL G ad kad cad I R WI WA GI GA LI LA LJ nK nC KI KA CK CD ++ w_X6 G am Mi Ma Mj) s H locs := w.eqw (show [] ++ (w_X5 G ad I R WI WA GI GA LI LA LJ ++ (plT G ad kad cad nK nC KI KA CK CD ++ w_X6 G am Mi Ma Mj)) = w_PL G ad kad cad I R WI WA GI GA LI LA LJ nK nC KI KA CK CD ++ w_X6 G am Mi Ma Mj from (List.append_assoc (w_X5 G ad I R WI WA GI GA LI LA LJ) (plT G ad kad cad nK nC KI KA CK CD) (w_X6 G am Mi Ma Mj)).symm)
  refine lv_aload_n hx hb dL_law_873 rfl (lv_at hl 1 rfl) ?_
  refine lv_aload_n hx hb dL_law_874 rfl (lv_at hl 3 rfl) ?_
  refine lv_iload_n hx hb dL_law_875 rfl (lv_at hl 0 rfl) ?_
  refine lv_iconst (v := 1) hx hb dL_law_876 (by decide) ?_
  refine lv_iadd hx hb dL_law_877 ?_
  refine va_sld hx hb hX hbl hbA w.2.2.1 in1 dL_law_878 ?_
  have w0 : WD G (LwA s) (w_PL G ad kad cad I R WI WA GI GA LI LA LJ nK nC KI KA CK CD ++ (w_X6 G am Mi Ma Mj ++ [])) s _ _ := w.eqw (by rw [List.append_nil])
  refine cl_i (wc' := w_X6 G am Mi Ma Mj) w0 (run_V (As := [.int (xs (nI i + 1).toNatClampNeg)]) (rest := [.int r]) C w0 (c_X6_count l G am _ _ _ _ _ _ e2) mt_X6_count tt_790 6 rfl rfl rfl rfl ⟨Nat.le_of_ble_eq_true rfl, Nat.le_of_ble_eq_true rfl⟩ hl.1 (Nat.le_of_ble_eq_true rfl) dL_law_879 ⟨by show cells + 0 ≤ 613125; omega, by show slots + 0 ≤ 7262874; omega⟩) (fun H locs w => ?_)
  have w : WD G (LwA s) (w_PL G ad kad cad I R WI WA GI GA LI LA LJ nK nC KI KA CK CD ++ w_X6 G am Mi Ma Mj) s H locs := w.eqw (by rw [List.append_nil])
  refine lv_icmp_eq (tgt := 887) hx hb dL_law_882 (by decide) (fun _ => ?_) (fun z => absurd rfl z)
  refine W.widen (k := cells + 5) (n := slots + 31) (by show cells ≤ cells + 5; omega) (by show slots ≤ slots + 31; omega) ?_
  exact kk _ _ ⟨ad, kad, cad, am, I, R, WI, WA, GI, GA, LI, LA, LJ, nK, nC, KI, KA, CK, CD, Mi, Ma, Mj, rfl, rfl, hR, w⟩
end LAW
