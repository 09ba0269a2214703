/-! THE CLAIM OUT OF ONE WALK OF THE LAW'S BODY. Your part is whole_start (and what it stands on); all else here is the same for every law, but numbers. -/
def R_law : String := "WallDeskLaw"
def lw_P (b : Addr) (xs : List Int32) (args : Array Value) (s : State) : Prop := args = #[.ref b] ∧ s.IntsAt b xs ∧ xs.length ≤ 2048 ∧ (Jvm.Cond.and given_1 narrow_1).before args s = true
def lw_Q (_ : Array Value) (s : State) (o : Outcome) (t : State) : Prop := o = .returned (some (.int 1)) ∧ Framed s o t [] 613125 7262874
def lw_Z (below : List Frame) (a : Array Value) (s : State) : State → Prop := fun t => ∃ o, t.status = .running ∧ Ended t below o ∧ lw_Q a s o t
/-- the law's own end, with 1 on the stack, nothing written that was there before, its room as the claim has it -/
theorem lw_ret {p : Program} {l : Launch} {e : Env} {s : State} {m : MethodId} {below : List Frame} {meth : Method} {c : Code} {b : Nat} (hx : p.tables.exec = Jvm.exec) (hb : c.code = code) (hr : meth.sig.returnType = ret) (hlocks : meth.locks = false) {pc : Nat} {H : Heap} {ls : Array Slot} (hdg : decode code pc = .ok (.ireturn, 1)) : W p l e room_1 s m #[Value.ref b] below meth c H [] 613125 7262874 (lw_Z below #[Value.ref b] s) (F0 m pc ls [.int 1]) := by
  intro T hT X
  obtain ⟨fs, hret, hrun, hended, hW, hframe⟩ := X.leave (v := some (.int 1)) (hlocks := hlocks) (fun h => by rw [hr] at h; cases h)
  have hmeth' : T.vm.method? m = some meth := X.method'
  refine ⟨T.setFrames fs, ?_, .returned (some (.int 1)), hrun, hended, rfl, ⟨_, rfl⟩, hW, hframe⟩
  jvm_step X.here [X.here.top, hx, hb, hdg, hmeth', hr, ret, narrow_b1]
  (try refine ⟨rfl, ?_⟩); (try refine ⟨rfl, ?_⟩)
  first | (intro acts; rw [hret _ acts rfl rfl rfl]) | rw [hret _ _ rfl rfl rfl]
  exact Steps.refl _
/-- what holds at the law's entry: the machine, the code, the tables' words (any of lw_tbl by 'hts w (by decide +kernel)'), the script of L ints xs at the cell b, what the Statement gives of the start (any of its parts by flat_of_before) -/
def lw_At (p : Program) (s : State) (m : MethodId) (meth : Method) (c : Code) (b L : Nat) (xs : Nat → Int32) : Prop :=
  p.tables.exec = Jvm.exec ∧ c.code = code ∧ meth.sig.returnType = ret ∧ c.maxLocals = 4 ∧ s.vm.findClass R_law = some m.cls ∧ (∀ w ∈ lw_tbl, w.before #[Value.ref b] s = true) ∧ va_X b L xs s s.heap ∧ b < s.heap.size ∧ meth.locks = false ∧ (Jvm.Cond.and given_1 narrow_1).before #[Value.ref b] s = true ∧ meth.name = "law" ∧ (Jvm.Cond.code x code maxLocals ret).before #[Value.ref b] s = true
section LOOP
variable {p : Program} {l : Launch} {e : Env} {s : State} {m : MethodId} {below : List Frame} {meth : Method} {c : Code} {H : Heap} {locs : List Loc} {cells slots : Nat} {Q : State → Prop} {ls : Array Slot} {b L q1 q2 i : Nat} {xs : Nat → Int32} {G : GG}
set_option maxHeartbeats 4000000 in
set_option maxRecDepth 100000 in
/-- one call of the script -/
theorem law_turn (C : CX p m meth c s #[.ref b] yL_law code 4 (some .boolean)) (hX : va_X b L xs s s.heap) (hbl : b < s.heap.size) (hi : i + 3 < L) (hL : L ≤ 2048) (hl : lv_has ls 4 [(3, .int (nI i)), (2, .ref q2), (1, .ref q1), (0, .ref b)]) (hce : cells + 5 ≤ 613125) (hsl : slots + 31 ≤ 7262874) (hV : LInv G s q1 q2 H locs) (kk : ∀ (H1 : Heap) (locs1 : List Loc), LInv G s q1 q2 H1 locs1 → W p l e room_1 s m #[.ref b] below meth c H1 locs1 (cells + 5) (slots + 31) Q (F0 m 887 ls [])) (j : Nat) (hj : j < 32) : W p l e room_1 s m #[.ref b] below meth c H locs cells slots Q (F0 m 32 ls [.int (nI j)]) := by
  by_cases h24 : j < 24
  · rcases (show j = 0 ∨ j = 1 ∨ j = 2 ∨ j = 3 ∨ j = 4 ∨ j = 5 ∨ j = 6 ∨ j = 7 ∨ j = 8 ∨ j = 9 ∨ j = 10 ∨ j = 11 ∨ j = 12 ∨ j = 13 ∨ j = 14 ∨ j = 15 ∨ j = 16 ∨ j = 17 ∨ j = 18 ∨ j = 19 ∨ j = 20 ∨ j = 21 ∨ j = 22 ∨ j = 23 by omega) with rfl | rfl | rfl | rfl | rfl | rfl | rfl | rfl | rfl | rfl | rfl | rfl | rfl | rfl | rfl | rfl | rfl | rfl | rfl | rfl | rfl | rfl | rfl | rfl
    · exact lv_tableIn (off := 112) (tgt := 144) C.1 C.2.1 dL_law_32 (by decide +kernel) (by decide +kernel) (by decide +kernel) (by decide +kernel) (law_tick C hX hbl hi hL hl hce hsl hV kk)
    · exact lv_tableIn (off := 135) (tgt := 167) C.1 C.2.1 dL_law_32 (by decide +kernel) (by decide +kernel) (by decide +kernel) (by decide +kernel) (law_roles C hX hbl hi hL hl hce hsl hV kk)
    · exact lv_tableIn (off := 168) (tgt := 200) C.1 C.2.1 dL_law_32 (by decide +kernel) (by decide +kernel) (by decide +kernel) (by decide +kernel) (law_firm C hX hbl hi hL hl hce hsl hV kk)
    · exact lv_tableIn (off := 191) (tgt := 223) C.1 C.2.1 dL_law_32 (by decide +kernel) (by decide +kernel) (by decide +kernel) (by decide +kernel) (law_object C hX hbl hi hL hl hce hsl hV kk)
    · exact lv_tableIn (off := 214) (tgt := 246) C.1 C.2.1 dL_law_32 (by decide +kernel) (by decide +kernel) (by decide +kernel) (by decide +kernel) (law_read C hX hbl hi hL hl hce hsl hV kk)
    · exact lv_tableIn (off := 247) (tgt := 279) C.1 C.2.1 dL_law_32 (by decide +kernel) (by decide +kernel) (by decide +kernel) (by decide +kernel) (law_write C hX hbl hi hL hl hce hsl hV kk)
    · exact lv_tableIn (off := 280) (tgt := 312) C.1 C.2.1 dL_law_32 (by decide +kernel) (by decide +kernel) (by decide +kernel) (by decide +kernel) (law_glass C hX hbl hi hL hl hce hsl hV kk)
    · exact lv_tableIn (off := 323) (tgt := 355) C.1 C.2.1 dL_law_32 (by decide +kernel) (by decide +kernel) (by decide +kernel) (by decide +kernel) (law_takeOff C hX hbl hi hL hl hce hsl hV kk)
    · exact lv_tableIn (off := 356) (tgt := 388) C.1 C.2.1 dL_law_32 (by decide +kernel) (by decide +kernel) (by decide +kernel) (by decide +kernel) (law_kind C hX hbl hi hL hl hce hsl hV kk)
    · exact lv_tableIn (off := 369) (tgt := 401) C.1 C.2.1 dL_law_32 (by decide +kernel) (by decide +kernel) (by decide +kernel) (by decide +kernel) (law_task C hX hbl hi hL hl hce hsl hV kk)
    · exact lv_tableIn (off := 412) (tgt := 444) C.1 C.2.1 dL_law_32 (by decide +kernel) (by decide +kernel) (by decide +kernel) (by decide +kernel) (law_apart C hX hbl hi hL hl hce hsl hV kk)
    · exact lv_tableIn (off := 455) (tgt := 487) C.1 C.2.1 dL_law_32 (by decide +kernel) (by decide +kernel) (by decide +kernel) (by decide +kernel) (law_bound C hX hbl hi hL hl hce hsl hV kk)
    · exact lv_tableIn (off := 498) (tgt := 530) C.1 C.2.1 dL_law_32 (by decide +kernel) (by decide +kernel) (by decide +kernel) (by decide +kernel) (law_most C hX hbl hi hL hl hce hsl hV kk)
    · exact lv_tableIn (off := 531) (tgt := 563) C.1 C.2.1 dL_law_32 (by decide +kernel) (by decide +kernel) (by decide +kernel) (by decide +kernel) (law_open C hX hbl hi hL hl hce hsl hV kk)
    · exact lv_tableIn (off := 554) (tgt := 586) C.1 C.2.1 dL_law_32 (by decide +kernel) (by decide +kernel) (by decide +kernel) (by decide +kernel) (law_perform C hX hbl hi hL hl hce hsl hV kk)
    · exact lv_tableIn (off := 597) (tgt := 629) C.1 C.2.1 dL_law_32 (by decide +kernel) (by decide +kernel) (by decide +kernel) (by decide +kernel) (law_canEnd C hX hbl hi hL hl hce hsl hV kk)
    · exact lv_tableIn (off := 620) (tgt := 652) C.1 C.2.1 dL_law_32 (by decide +kernel) (by decide +kernel) (by decide +kernel) (by decide +kernel) (law_doer C hX hbl hi hL hl hce hsl hV kk)
    · exact lv_tableIn (off := 653) (tgt := 685) C.1 C.2.1 dL_law_32 (by decide +kernel) (by decide +kernel) (by decide +kernel) (by decide +kernel) (law_told C hX hbl hi hL hl hce hsl hV kk)
    · exact lv_tableIn (off := 686) (tgt := 718) C.1 C.2.1 dL_law_32 (by decide +kernel) (by decide +kernel) (by decide +kernel) (by decide +kernel) (law_glassTold C hX hbl hi hL hl hce hsl hV kk)
    · exact lv_tableIn (off := 719) (tgt := 751) C.1 C.2.1 dL_law_32 (by decide +kernel) (by decide +kernel) (by decide +kernel) (by decide +kernel) (law_entry C hX hbl hi hL hl hce hsl hV kk)
    · exact lv_tableIn (off := 752) (tgt := 784) C.1 C.2.1 dL_law_32 (by decide +kernel) (by decide +kernel) (by decide +kernel) (by decide +kernel) (law_link C hX hbl hi hL hl hce hsl hV kk)
    · exact lv_tableIn (off := 776) (tgt := 808) C.1 C.2.1 dL_law_32 (by decide +kernel) (by decide +kernel) (by decide +kernel) (by decide +kernel) (law_alter C hX hbl hi hL hl hce hsl hV kk)
    · exact lv_tableIn (off := 819) (tgt := 851) C.1 C.2.1 dL_law_32 (by decide +kernel) (by decide +kernel) (by decide +kernel) (by decide +kernel) (law_check C hX hbl hi hL hl hce hsl hV kk)
    · exact lv_tableIn (off := 832) (tgt := 864) C.1 C.2.1 dL_law_32 (by decide +kernel) (by decide +kernel) (by decide +kernel) (by decide +kernel) (law_count C hX hbl hi hL hl hce hsl hV kk)
  · refine lv_tableOut (tgt := 887) C.1 C.2.1 dL_law_32 (Or.inr ?_) (by decide +kernel) ?_
    · rw [nI_toInt (by omega)]; omega
    · exact W.widen (k := cells + 5) (n := slots + 31) (by omega) (by omega) (kk _ _ hV)
set_option maxHeartbeats 4000000 in
set_option maxRecDepth 100000 in
/-- the law's loop, with k calls behind it -/
theorem law_loop (C : CX p m meth c s #[.ref b] yL_law code 4 (some .boolean)) (hX : va_X b L xs s s.heap) (hbl : b < s.heap.size) (hL : L ≤ 2048) : ∀ (d k : Nat), L < 4 * k + 4 * d → k ≤ 512 → ∀ (H : Heap) (locs : List Loc) (ls : Array Slot), LInv G s q1 q2 H locs → lv_has ls 4 [(3, .int (nI (4 * k))), (2, .ref q2), (1, .ref q1), (0, .ref b)] → W p l e room_1 s m #[.ref b] below meth c H locs (39 + 5 * k) (3957 + 31 * k) (lw_Z below #[Value.ref b] s) (F0 m 18 ls []) := by
  intro d
  induction d with
  | zero =>
    intro k hd hk H locs ls hV hl
    obtain ⟨ad, kad, cad, am, I, R, WI, WA, GI, GA, LI, LA, LJ, nK, nC, KI, KA, CK, CD, Mi, Ma, Mj, had, ham, hR, w⟩ := hV
    have hx := C.1
    have hb := C.2.1
    have hbA : ¬ LwA s b := Nat.not_le.mpr hbl
    refine lv_iload_n hx hb dL_law_18 rfl (lv_at hl 0 rfl) ?_
    refine lv_aload_n hx hb dL_law_19 rfl (lv_at hl 3 rfl) ?_
    refine va_slen hx hb hX hbl hbA w.2.2.1 dL_law_20 ?_
    refine lv_iconst (v := 4) hx hb dL_law_21 (by decide) ?_
    refine lv_isub hx hb dL_law_22 ?_
    have hcmp : Int32.ofNat L - 4 < nI (4 * k) := by
      rw [Int32.lt_iff_toInt_lt, nI_toInt (by omega)]
      have := pk_sub_toInt (a := L) (b := 4) (by omega) (by omega)
      have e : (Int32.ofNat L - 4).toInt = (L : Int) - 4 := this
      rw [e]; omega
    refine lv_icmp_gt (tgt := 893) hx hb dL_law_23 (by decide) (fun _ => ?_) (fun z => absurd hcmp z)
    refine lv_iconst (v := 1) hx hb dL_law_893 (by decide) ?_
    refine va_forget (fun q hq => w.2.2.1.2.2 q hq) ?_
    refine W.widen (k := 613125) (n := 7262874) (by omega) (by omega) ?_
    exact lw_ret hx hb C.2.2.1 C.2.2.2.2.2.1 dL_law_894
  | succ d ih =>
    intro k hd hk H locs ls hV hl
    have hV' := hV
    obtain ⟨ad, kad, cad, am, I, R, WI, WA, GI, GA, LI, LA, LJ, nK, nC, KI, KA, CK, CD, Mi, Ma, Mj, had, ham, hR, w⟩ := hV
    have hx := C.1
    have hb := C.2.1
    have hbA : ¬ LwA s b := Nat.not_le.mpr hbl
    refine lv_iload_n hx hb dL_law_18 rfl (lv_at hl 0 rfl) ?_
    refine lv_aload_n hx hb dL_law_19 rfl (lv_at hl 3 rfl) ?_
    refine va_slen hx hb hX hbl hbA w.2.2.1 dL_law_20 ?_
    refine lv_iconst (v := 4) hx hb dL_law_21 (by decide) ?_
    refine lv_isub hx hb dL_law_22 ?_
    have hcmp : Int32.ofNat L - 4 < nI (4 * k) ↔ L < 4 * k + 4 := by
      rw [Int32.lt_iff_toInt_lt, nI_toInt (by omega)]
      have := pk_sub_toInt (a := L) (b := 4) (by omega) (by omega)
      have e : (Int32.ofNat L - 4).toInt = (L : Int) - 4 := this
      rw [e]; omega
    refine lv_icmp_gt (tgt := 893) hx hb dL_law_23 (by decide) (fun _ => ?_) (fun z => ?_)
    · refine lv_iconst (v := 1) hx hb dL_law_893 (by decide) ?_
      refine va_forget (fun q hq => w.2.2.1.2.2 q hq) ?_
      refine W.widen (k := 613125) (n := 7262874) (by omega) (by omega) ?_
      exact lw_ret hx hb C.2.2.1 C.2.2.2.2.2.1 dL_law_894
    · have hlt : 4 * k + 3 < L := by
        have h9 : ¬ L < 4 * k + 4 := fun y => z (hcmp.mpr y)
        omega
      refine lv_aload_n hx hb dL_law_26 rfl (lv_at hl 3 rfl) ?_
      refine lv_iload_n hx hb dL_law_27 rfl (lv_at hl 0 rfl) ?_
      refine va_sld hx hb hX hbl hbA w.2.2.1 (vp_in_nI (show 4 * k < L by omega) (by omega)) dL_law_28 ?_
      refine lv_bipush (v := 31) hx hb dL_law_29 (by decide) ?_
      refine lv_iand hx hb dL_law_31 ?_
      obtain ⟨j, hj, ej⟩ := pk_andE (xs (nI (4 * k)).toNatClampNeg) (m := 31) 5 (by decide)
      rw [ej]
      refine law_turn C hX hbl hlt hL hl (by omega) (by omega) hV' (fun H1 locs1 hV1 => ?_) j (by omega)
      refine lv_iinc (v := nI (4 * (k + 1))) (lv' := [(3, .int (nI (4 * (k + 1)))), (2, .ref q2), (1, .ref q1), (0, .ref b)]) hx hb dL_law_887 hl (k := 0) rfl (by rw [show (Int32.ofInt 4) = nI 4 from rfl, nI_add, Nat.mul_succ]) (by decide) rfl (fun ls hl => ?_)
      refine lv_goto (tgt := 18) hx hb dL_law_890 (by decide) ?_
      have h := ih (k + 1) (by omega) (by omega) H1 locs1 ls hV1 hl
      rw [show 39 + 5 * (k + 1) = 39 + 5 * k + 5 by omega, show 3957 + 31 * (k + 1) = 3957 + 31 * k + 31 by omega] at h
      exact h
end LOOP
