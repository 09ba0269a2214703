/-! the world of a method as a list of cells; what a method needs of the machine (CX), what its world is (WD), how it is called -/
abbrev GG : Type := ((Nat → ClassId) × (Nat → Nat → Nat)) × (Nat → ClassId)
def TY (G : GG) : List (ClassId × FieldType) := [(G.2 0, .int), (G.2 1, .long), (G.2 2, .boolean), (G.2 3, .object "WallDesk$Kind"), (G.2 4, .object "WallDesk$Case")]
def NWs (U : State) : Prop := (∀ w ∈ NT, va_Nw w U) ∧ va_AO "WallDesk$Kind" U ∧ va_AO "WallDesk$Case" U
theorem NWs.warm {s U : State} (hW : s.WarmedH U.vm) (h : NWs s) : NWs U := by
  refine ⟨?_, h.2.1.moved hW.alike, h.2.2.moved hW.alike⟩
  intro w hw
  have h1 := h.1 w hw
  have h2 := (List.mem_filter.mp hw).2
  cases w <;> first | (simp [isNest] at h2; done) | exact va_Nw.warmF hW h1 | exact va_Nw.warmM hW h1
theorem NWs.same {u U : State} (h : u.vm = U.vm) (hu : NWs u) : NWs U := by
  refine ⟨?_, hu.2.1.moved (by rw [h]; exact Vm.Alike.refl _), hu.2.2.moved (by rw [h]; exact Vm.Alike.refl _)⟩
  intro w hw
  have h1 := hu.1 w hw
  have h2 := (List.mem_filter.mp hw).2
  cases w <;> first | (simp [isNest] at h2; done) | exact va_Nw.same rfl h h1
def SW (j : Nat) : Int64 := match j with
  | 0 => 6148914691236517205
  | 1 => 3689348814741910323
  | 2 => 1085102592571150095
  | 3 => 71777214294589695
  | 4 => 281470681808895
  | _ => 4294967295
/-- the one static array, that nobody writes -/
def ZT (A : Nat → Prop) (U : State) (H : Heap) : Prop := ∃ t : Nat, va_Z "WallDesk$Case" "SETS_WITHOUT" "[J" (.ref t) A U H ∧ va_T .long t 6 (fun j => .long (SW j)) A U H
theorem ZT.moved {A : Nat → Prop} {u U : State} {H : Heap} (hvm : u.vm.Alike U.vm) (h : ZT A u H) : ZT A U H := by
  obtain ⟨t, h1, h2⟩ := h
  exact ⟨t, h1.moved hvm, h2.moved hvm⟩
theorem ZT.kept {A : Nat → Prop} {U : State} {H H1 : Heap} (h : ZT A U H) (hq : ∀ a : Nat, a < H.size → ¬ A a → H1[a]? = H[a]?) : ZT A U H1 := by
  obtain ⟨t, h1, h2⟩ := h
  exact ⟨t, h1.kept hq, h2.kept hq⟩
theorem ZT.narrow {A B : Nat → Prop} {U : State} {H : Heap} (h : ZT A U H) (hAB : ∀ q, B q → A q) : ZT B U H := by
  obtain ⟨t, h1, h2⟩ := h
  exact ⟨t, h1.narrow hAB, h2.narrow hAB⟩
abbrev WS (y : MethodName) (cc : ByteArray) (n : Nat) (ret : Option FieldType) : List Cond := Cond.code y cc n ret :: TT
theorem gd_ws {a b : Cond} (hb : b ∈ TT) : GoodIn (a :: TT) (b :: TT) := by
  intro w hw
  have hT : w ∈ TT := by
    rcases List.mem_cons.mp hw with rfl | h
    · exact hb
    · exact h
  exact ⟨List.mem_cons_of_mem _ hT, good_of_word (List.mem_filter.mp hT).2⟩
def CX (p : Program) (m : MethodId) (meth : Method) (c : Code) (s : State) (args : Array Value) (y : MethodName) (cc : ByteArray) (nL : Nat) (ret : Option FieldType) : Prop :=
  p.tables.exec = Jvm.exec ∧ c.code = cc ∧ meth.sig.returnType = ret ∧ c.maxLocals = nL ∧ s.vm.findClass y.cls = some m.cls ∧ meth.locks = false ∧ meth.name = y.name ∧ (∀ w ∈ WS y cc nL ret, w.before args s = true) ∧ NWs s
def WD (G : GG) (A : Nat → Prop) (ws : va_W) (s : State) (H : Heap) (locs : List Loc) : Prop :=
  va_P G.1 vwCl ws H ∧ va_D A ws ∧ va_S A s.heap H locs ∧ va_K G.1 vwCl (TY G) s ∧ (∀ q : Nat, s.heap.size ≤ q → A q) ∧ ZT A s s.heap
def PB (G : GG) (ws : va_W) (sz : Nat) (U : State) : Prop := U.heap.size = sz ∧ va_P G.1 vwCl ws U.heap ∧ va_K G.1 vwCl (TY G) U ∧ va_D (fun _ => True) ws ∧ NWs U ∧ ZT (va_A ws sz) U U.heap
def QB (G : GG) (ws : va_W) (A : Nat → Prop) (t : State) : Prop := va_P G.1 vwCl ws t.heap ∧ va_K G.1 vwCl (TY G) t ∧ va_D A ws
theorem pb_blind {G : GG} {ws : va_W} {sz : Nat} {av : List Value} : FrameBlind (va_Pc av (PB G ws sz)) := by
  intro a U g mk q
  obtain ⟨q0, q1, qP, qK, qD, qN, qZ⟩ := q
  exact ⟨q0, q1, qP, va_K.moved (u := U) (U := U.calling g mk a) (Vm.Alike.refl U.vm) qK, qD, NWs.same (u := U) (U := U.calling g mk a) rfl qN, ZT.moved (u := U) (U := U.calling g mk a) (Vm.Alike.refl U.vm) qZ⟩
theorem ct_of {l : Launch} {y : MethodName} {cc : ByteArray} {nL : Nat} {ret : Option FieldType} {rm : Room} {G : GG} {av : List Value} {ws : va_W} {sz : Nat} {Qc : Array Value → State → Outcome → State → Prop} {mc ms : Nat} {free : Addr → Prop} (hy : plainName y.cls = true) (hn : (lg_sl av).length ≤ nL)
    (body : ∀ (p : Program) (e : Env) (s : State) (m : MethodId) (below : List Frame) (meth : Method) (c : Code) (ls : Array Slot), CX p m meth c s av.toArray y cc nL ret → WD G (va_A ws sz) ws s s.heap [] → s.heap.size = sz → lv_has ls nL (lv_args 0 av) →
      W p l e rm s m av.toArray below meth c s.heap [] 0 0 (MQ below Qc av.toArray s mc ms free) (F0 m 0 ls [])) : Met l y (WS y cc nL ret) rm (va_Pc av (PB G ws sz)) Qc mc ms free := by
  refine Met.ofW (cc := cc) (maxL := nL) (ret := ret) hy rfl ?_
  intro p e s m args below meth c s₁ B hml hv
  obtain ⟨rfl, hsz, hP, hK, hD0, hnw, hz⟩ := hv
  have hl := lv_entry av (n := nL) hn
  rw [lg_entry_eq]
  exact body p e s m below meth c _ ⟨B.exec, B.bytes, B.returns, hml, findClass_of_methodNamed B.named, B.notSynchronized, (name_of_methodNamed B.named B.method).1, atoms_spec (ws := WS y cc nL ret) B.pre, hnw⟩ ⟨hP, hsz ▸ hD0.self, va_S.rf, hK, fun q h => Or.inr (hsz ▸ h), hz⟩ hsz hl
/-- contracts: an int, a long, nothing comes back; the world ws becomes ws' -/
abbrev CtI (l : Launch) (y : MethodName) (cc : ByteArray) (nL : Nat) (ret : Option FieldType) (rm : Room) (G : GG) (av : List Value) (ws ws' : va_W) (sz : Nat) (r : Int32) : Prop := Met l y (WS y cc nL ret) rm (va_Pc av (PB G ws sz)) (va_Qi (fun x (_ : Unit) => x = r) (fun _ t => QB G ws' (va_A ws sz) t) (va_A ws sz)) 0 0 (va_A ws sz)
abbrev CtL (l : Launch) (y : MethodName) (cc : ByteArray) (nL : Nat) (ret : Option FieldType) (rm : Room) (G : GG) (av : List Value) (ws ws' : va_W) (sz : Nat) (r : Int64) : Prop := Met l y (WS y cc nL ret) rm (va_Pc av (PB G ws sz)) (va_Ql (fun x (_ : Unit) => x = r) (fun _ t => QB G ws' (va_A ws sz) t) (va_A ws sz)) 0 0 (va_A ws sz)
abbrev CtV (l : Launch) (y : MethodName) (cc : ByteArray) (nL : Nat) (ret : Option FieldType) (rm : Room) (G : GG) (av : List Value) (ws ws' : va_W) (sz : Nat) : Prop := Met l y (WS y cc nL ret) rm (va_Pc av (PB G ws sz)) (va_Qv (fun (_ : Unit) => True) (fun _ t => QB G ws' (va_A ws sz) t) (va_A ws sz)) 0 0 (va_A ws sz)
/-- the ends of a walk -/
abbrev EnI (below : List Frame) (G : GG) (A : Nat → Prop) (args : Array Value) (s : State) (ws' : va_W) (r : Int32) : State → Prop := MQ below (va_Qi (fun x (_ : Unit) => x = r) (fun _ t => QB G ws' A t) A) args s 0 0 A
abbrev EnL (below : List Frame) (G : GG) (A : Nat → Prop) (args : Array Value) (s : State) (ws' : va_W) (r : Int64) : State → Prop := MQ below (va_Ql (fun x (_ : Unit) => x = r) (fun _ t => QB G ws' A t) A) args s 0 0 A
abbrev EnV (below : List Frame) (G : GG) (A : Nat → Prop) (args : Array Value) (s : State) (ws' : va_W) : State → Prop := MQ below (va_Qv (fun (_ : Unit) => True) (fun _ t => QB G ws' A t) A) args s 0 0 A
def gd {α : Type} (i : Int32) (n : Nat) (k : Option α) : Option α := if ¬ (i < 0 ∨ n ≤ i.toNatClampNeg) then k else none
theorem gdS {α : Type} {i : Int32} {n : Nat} {k : Option α} {r : α} (h : gd i n k = some r) : vp_in i n ∧ k = some r := by
  unfold gd at h
  by_cases hc : ¬ (i < 0 ∨ n ≤ i.toNatClampNeg)
  · rw [if_pos hc] at h
    exact ⟨hc, h⟩
  · rw [if_neg hc] at h
    cases h
def gp {α : Type} (c : Prop) [Decidable c] (k : Option α) : Option α := if c then k else none
theorem gpS {α : Type} {c : Prop} [Decidable c] {k : Option α} {r : α} (h : gp c k = some r) : c ∧ k = some r := by
  unfold gp at h
  by_cases hc : c
  · rw [if_pos hc] at h
    exact ⟨hc, h⟩
  · rw [if_neg hc] at h
    cases h
theorem bdS {α β : Type} {o : Option α} {f : α → Option β} {r : β} (h : o.bind f = some r) : ∃ x, o = some x ∧ f x = some r := Option.bind_eq_some_iff.mp h
def aS (A : Nat → Nat → Int32) (k i : Nat) (x : Int32) : Nat → Nat → Int32 := fun j => if j = k then upd (A k) i x else A j
def jS (J : Nat → Nat → Int64) (k i : Nat) (x : Int64) : Nat → Nat → Int64 := fun j => if j = k then vp_updL (J k) i x else J j
theorem va_P_mem {D : va_G} {cl : List vw_C} {ws : va_W} {H : Heap} : va_P D cl ws H ↔ ∀ q ∈ ws, va_at D cl q H :=
  ⟨fun h q hq => by obtain ⟨k, hk⟩ := List.mem_iff_getElem?.mp hq; exact h k q hk, fun h k q hk => h q (List.mem_of_getElem? hk)⟩
theorem va_D_iff {A : Nat → Prop} {ws : va_W} : va_D A ws ↔ (ws.map Prod.fst).Nodup ∧ ∀ q ∈ ws, A q.1 := by
  constructor
  · intro h
    refine ⟨?_, fun q hq => by obtain ⟨k, hk⟩ := List.mem_iff_getElem?.mp hq; exact h.2 k q hk⟩
    unfold List.Nodup
    rw [List.pairwise_iff_getElem]
    intro i j hi hj hij he
    simp only [List.length_map] at hi hj
    simp only [List.getElem_map] at he
    exact absurd (h.1 i j _ _ (List.getElem?_eq_getElem hi) (List.getElem?_eq_getElem hj) he) (Nat.ne_of_lt hij)
  · intro h
    refine ⟨fun i j p q hp hq he => ?_, fun k q hk => h.2 q (List.mem_of_getElem? hk)⟩
    have h1 := h.1
    unfold List.Nodup at h1
    rw [List.pairwise_iff_getElem] at h1
    obtain ⟨hi, rfl⟩ := List.getElem?_eq_some_iff.mp hp
    obtain ⟨hj, rfl⟩ := List.getElem?_eq_some_iff.mp hq
    rcases Nat.lt_trichotomy i j with hl | hl | hl
    · exact absurd (by rw [List.getElem_map, List.getElem_map]; exact he) (h1 i j (by simpa using hi) (by simpa using hj) hl)
    · exact hl
    · exact absurd (by rw [List.getElem_map, List.getElem_map]; exact he.symm) (h1 j i (by simpa using hj) (by simpa using hi) hl)
theorem va_A_mem {ws : va_W} {sz q : Nat} : va_A ws sz q ↔ q ∈ ws.map Prod.fst ∨ sz ≤ q := by
  unfold va_A
  constructor
  · rintro (⟨k, e, h⟩ | h)
    · exact Or.inl (List.mem_map.mpr ⟨_, List.mem_of_getElem? h, rfl⟩)
    · exact Or.inr h
  · rintro (h | h)
    · obtain ⟨x, hx, rfl⟩ := List.mem_map.mp h
      obtain ⟨k, hk⟩ := List.mem_iff_getElem?.mp hx
      exact Or.inl ⟨k, x.2, hk⟩
    · exact Or.inr h
theorem seg_A {A0 : Nat → Prop} {pre wc post : va_W} {H0 H : Heap} {locs : List Loc} (hD : va_D A0 (pre ++ (wc ++ post))) (hS : va_S A0 H0 H locs) (hA : ∀ q : Nat, H0.size ≤ q → A0 q) : ∀ q, va_A wc H.size q → A0 q := by
  intro q h
  rcases va_A_mem.mp h with h | h
  · obtain ⟨x, hx, rfl⟩ := List.mem_map.mp h
    exact (va_D_iff.mp hD).2 x (by simp [hx])
  · exact hA q (Nat.le_trans hS.1 h)
theorem seg_D {A0 B : Nat → Prop} {pre wc post : va_W} (hD : va_D A0 (pre ++ (wc ++ post))) (hB : ∀ q, A0 q → B q) : va_D B wc := by
  have h := va_D_iff.mp hD
  refine va_D_iff.mpr ⟨?_, fun q hq => hB _ (h.2 q (by simp [hq]))⟩
  have h1 := h.1
  rw [List.map_append, List.map_append, List.nodup_append] at h1
  exact (List.nodup_append.mp h1.2.1).1
theorem seg_P {D : va_G} {cl : List vw_C} {pre wc post : va_W} {H : Heap} (hP : va_P D cl (pre ++ (wc ++ post)) H) : va_P D cl wc H := va_P_mem.mpr fun q hq => va_P_mem.mp hP q (by simp [hq])
/-- behind a call: the segment wc of the world has become wc', the rest has stayed -/
theorem seg_join {A0 : Nat → Prop} {D : va_G} {cl : List vw_C} {pre wc wc' post : va_W} {H H1 : Heap} (hP : va_P D cl (pre ++ (wc ++ post)) H) (hD : va_D A0 (pre ++ (wc ++ post)))
    (hk : ∀ q : Nat, q < H.size → ¬ va_A wc H.size q → H1[q]? = H[q]?) (hF : ∀ q, va_A wc H.size q → A0 q) (hP1 : va_P D cl wc' H1) (hD1 : va_D (va_A wc H.size) wc') : va_P D cl (pre ++ (wc' ++ post)) H1 ∧ va_D A0 (pre ++ (wc' ++ post)) := by
  have hM := va_P_mem.mp hP
  have hd := va_D_iff.mp hD
  have hn := hd.1
  rw [List.map_append, List.map_append, List.nodup_append] at hn
  obtain ⟨n1, n2, n3⟩ := hn
  rw [List.nodup_append] at n2
  obtain ⟨n4, n5, n6⟩ := n2
  have hd1 := va_D_iff.mp hD1
  have off : ∀ q, (q ∈ pre ∨ q ∈ post) → q.1 < H.size ∧ ¬ va_A wc H.size q.1 := by
    intro q hq
    have hlt : q.1 < H.size := (hM q (by rcases hq with h | h <;> simp [h])).lt
    refine ⟨hlt, fun h => ?_⟩
    rcases va_A_mem.mp h with h | h
    · rcases hq with hq | hq
      · exact n3 q.1 (List.mem_map.mpr ⟨q, hq, rfl⟩) q.1 (List.mem_append.mpr (Or.inl h)) rfl
      · exact n6 q.1 h q.1 (List.mem_map.mpr ⟨q, hq, rfl⟩) rfl
    · omega
  refine ⟨va_P_mem.mpr fun q hq => ?_, va_D_iff.mpr ⟨?_, fun q hq => ?_⟩⟩
  · rcases List.mem_append.mp hq with h | h
    · obtain ⟨g1, g2⟩ := off q (Or.inl h)
      exact (hM q (by simp [h])).kept (hk q.1 g1 g2)
    · rcases List.mem_append.mp h with h | h
      · exact va_P_mem.mp hP1 q h
      · obtain ⟨g1, g2⟩ := off q (Or.inr h)
        exact (hM q (by simp [h])).kept (hk q.1 g1 g2)
  · rw [List.map_append, List.map_append, List.nodup_append]
    refine ⟨n1, List.nodup_append.mpr ⟨hd1.1, n5, fun a ha b hb he => ?_⟩, fun a ha b hb he => ?_⟩
    · subst he
      obtain ⟨x, hx, rfl⟩ := List.mem_map.mp ha
      obtain ⟨z, hz, hzx⟩ := List.mem_map.mp hb
      exact (off z (Or.inr hz)).2 (by rw [hzx]; exact hd1.2 x hx)
    · subst he
      obtain ⟨z, hz, hzx⟩ := List.mem_map.mp ha
      rcases List.mem_append.mp hb with hb | hb
      · obtain ⟨x, hx, hxe⟩ := List.mem_map.mp hb
        exact (off z (Or.inl hz)).2 (by rw [hzx, ← hxe]; exact hd1.2 x hx)
      · exact n3 _ ha _ (List.mem_append.mpr (Or.inr hb)) rfl
  · rcases List.mem_append.mp hq with h | h
    · exact hd.2 q (by simp [h])
    · rcases List.mem_append.mp h with h | h
      · exact hF _ (hd1.2 q h)
      · exact hd.2 q (by simp [h])
section CORE
variable {p : Program} {l : Launch} {e : Env} {R : Room} {s : State} {m : MethodId} {args : Array Value} {below : List Frame} {meth : Method} {c : Code} {H : Heap} {locs : List Loc} {cells slots : Nat} {Q : State → Prop}
variable {cc : ByteArray} {pc : Nat} {ls : Array Slot} {rest : List Value} {A : Nat → Prop} {a : Nat} {ws : va_W} {y : MethodName} {nL : Nat} {ret : Option FieldType} {G : GG}
theorem CX.ts (C : CX p m meth c s args y cc nL ret) {w : Cond} (h : w ∈ TT) : w.before args s = true := C.2.2.2.2.2.2.2.1 w (List.mem_cons_of_mem _ h)
theorem CX.ns (C : CX p m meth c s args y cc nL ret) {w : Cond} (h : w ∈ NT) : w.before args s = true := va_Nw.use (by have h2 := (List.mem_filter.mp h).2; cases w <;> first | (simp [isNest] at h2; done) | rfl) (C.2.2.2.2.2.2.2.2.1 w h)
theorem r_get (C : CX p m meth c s args y cc nL ret) (w : WD G A ws s H locs) (q0 ci k : Nat) {cn : String} {T : u_T} {N idx : Nat} {fs : List Value} (v : Value) (he : ws[q0]? = some (a, .inr (ci, fs))) (hc : vwCl[ci]? = some (cn, T, N)) (hin : ∀ w ∈ u_ws cn T N, w ∈ TT) (hk : k < N) (hl : Cond.fieldLink y.cls idx (T k).1 (T k).2.1 (T k).2.2.1 ∈ TT) (hv : fs[k]? = some v) (hdg : decode cc pc = .ok (.getfield idx, 3))
    (kk : W p l e R s m args below meth c H locs cells slots Q (F0 m (pc + 3) ls (v :: rest))) : W p l e R s m args below meth c H locs cells slots Q (F0 m pc ls (.ref a :: rest)) :=
  va_get C.1 C.2.1 C.2.2.2.2.2.2.2.1 (fun w h => List.mem_cons_of_mem _ (hin w h)) C.2.2.2.2.1 w.2.2.2.1 w.1 q0 he hc k hk (C.ts hl) (fun _ h => h) hv hdg kk
theorem r_getN (C : CX p m meth c s args y cc nL ret) (w : WD G A ws s H locs) (q0 ci k : Nat) {cn host : String} {T : u_T} {N idx : Nat} {fs : List Value} (v : Value) (he : ws[q0]? = some (a, .inr (ci, fs))) (hc : vwCl[ci]? = some (cn, T, N)) (hin : ∀ w ∈ u_ws cn T N, w ∈ TT) (hk : k < N) (hl : Cond.fieldLinkNest y.cls idx (T k).1 (T k).2.1 (T k).2.2.1 host ∈ NT) (hv : fs[k]? = some v) (hdg : decode cc pc = .ok (.getfield idx, 3))
    (kk : W p l e R s m args below meth c H locs cells slots Q (F0 m (pc + 3) ls (v :: rest))) : W p l e R s m args below meth c H locs cells slots Q (F0 m pc ls (.ref a :: rest)) :=
  va_getN C.1 C.2.1 C.2.2.2.2.2.2.2.1 (fun w h => List.mem_cons_of_mem _ (hin w h)) C.2.2.2.2.1 w.2.2.2.1 w.1 q0 he hc k hk (C.ns hl) (fun _ h => h) hv hdg kk
theorem r_put (C : CX p m meth c s args y cc nL ret) (w : WD G A ws s H locs) (q0 ci k : Nat) {cn : String} {T : u_T} {N idx : Nat} {fs : List Value} {v : Value} (ws' : va_W) {ty0 : Nat → FieldType} (hty : ∀ k, k < N → parseFieldDescriptor (T k).2.2.1 = some (ty0 k)) (hnm : ∀ a, a < N → ∀ b, b < N → a ≠ b → (T a).2.1 ≠ (T b).2.1) (he : ws[q0]? = some (a, .inr (ci, fs))) (hc : vwCl[ci]? = some (cn, T, N)) (hin : ∀ w ∈ u_ws cn T N, w ∈ TT) (hk : k < N) (hl : Cond.fieldLink y.cls idx (T k).1 (T k).2.1 (T k).2.2.1 ∈ TT) (hfin : (T k).2.2.2 = false) (hn : narrow (ty0 k) v = v) (hfit : fits (ty0 k) v = true) (hlen : k < fs.length) (hws : ws.set q0 (a, .inr (ci, fs.set k v)) = ws') (hdg : decode cc pc = .ok (.putfield idx, 3))
    (kk : ∀ (H1 : Heap) (locs1 : List Loc), WD G A ws' s H1 locs1 → W p l e R s m args below meth c H1 locs1 cells slots Q (F0 m (pc + 3) ls rest)) : W p l e R s m args below meth c H locs cells slots Q (F0 m pc ls (v :: .ref a :: rest)) :=
  va_put C.1 C.2.1 C.2.2.2.2.2.2.2.1 (fun w h => List.mem_cons_of_mem _ (hin w h)) ty0 hty hnm C.2.2.2.2.1 w.2.2.2.1 w.1 w.2.1 w.2.2.1 q0 he hc k hk (C.ts hl) (fun _ h => h) hfin (hty k hk) hn hfit hlen hdg (fun H1 locs1 h1 h2 h3 => kk H1 locs1 ⟨hws ▸ h1, hws ▸ h2, h3, w.2.2.2⟩)
theorem r_putN (C : CX p m meth c s args y cc nL ret) (w : WD G A ws s H locs) (q0 ci k : Nat) {cn host : String} {T : u_T} {N idx : Nat} {fs : List Value} {v : Value} (ws' : va_W) {ty0 : Nat → FieldType} (hty : ∀ k, k < N → parseFieldDescriptor (T k).2.2.1 = some (ty0 k)) (hnm : ∀ a, a < N → ∀ b, b < N → a ≠ b → (T a).2.1 ≠ (T b).2.1) (he : ws[q0]? = some (a, .inr (ci, fs))) (hc : vwCl[ci]? = some (cn, T, N)) (hin : ∀ w ∈ u_ws cn T N, w ∈ TT) (hk : k < N) (hl : Cond.fieldLinkNest y.cls idx (T k).1 (T k).2.1 (T k).2.2.1 host ∈ NT) (hfin : (T k).2.2.2 = false) (hn : narrow (ty0 k) v = v) (hfit : fits (ty0 k) v = true) (hlen : k < fs.length) (hws : ws.set q0 (a, .inr (ci, fs.set k v)) = ws') (hdg : decode cc pc = .ok (.putfield idx, 3))
    (kk : ∀ (H1 : Heap) (locs1 : List Loc), WD G A ws' s H1 locs1 → W p l e R s m args below meth c H1 locs1 cells slots Q (F0 m (pc + 3) ls rest)) : W p l e R s m args below meth c H locs cells slots Q (F0 m pc ls (v :: .ref a :: rest)) :=
  va_putN C.1 C.2.1 C.2.2.2.2.2.2.2.1 (fun w h => List.mem_cons_of_mem _ (hin w h)) ty0 hty hnm C.2.2.2.2.1 w.2.2.2.1 w.1 w.2.1 w.2.2.1 q0 he hc k hk (C.ns hl) (fun _ h => h) hfin (hty k hk) hn hfit hlen hdg (fun H1 locs1 h1 h2 h3 => kk H1 locs1 ⟨hws ▸ h1, hws ▸ h2, h3, w.2.2.2⟩)
theorem r_iald (C : CX p m meth c s args y cc nL ret) (w : WD G A ws s H locs) (q0 : Nat) {n : Nat} {f : Nat → Int32} {i : Int32} (v : Int32) (ha : ws[q0]? = some (a, .inl (G.2 0, n, .inl f))) (hv : f i.toNatClampNeg = v) (hin : vp_in i n) (hdg : decode cc pc = .ok (.iaload, 1))
    (kk : W p l e R s m args below meth c H locs cells slots Q (F0 m (pc + 1) ls (.int v :: rest))) : W p l e R s m args below meth c H locs cells slots Q (F0 m pc ls (.int i :: .ref a :: rest)) := by
  subst hv; exact va_iald C.1 C.2.1 w.2.2.2.1 w.1 q0 0 ha rfl hin hdg kk
theorem r_zald (C : CX p m meth c s args y cc nL ret) (w : WD G A ws s H locs) (q0 : Nat) {n : Nat} {f : Nat → Int32} {i : Int32} (v : Int32) (ha : ws[q0]? = some (a, .inl (G.2 2, n, .inl f))) (hv : f i.toNatClampNeg = v) (hin : vp_in i n) (hdg : decode cc pc = .ok (.baload, 1))
    (kk : W p l e R s m args below meth c H locs cells slots Q (F0 m (pc + 1) ls (.int v :: rest))) : W p l e R s m args below meth c H locs cells slots Q (F0 m pc ls (.int i :: .ref a :: rest)) := by
  subst hv; exact va_zald C.1 C.2.1 w.2.2.2.1 w.1 q0 2 ha rfl hin hdg kk
theorem r_lald (C : CX p m meth c s args y cc nL ret) (w : WD G A ws s H locs) (q0 : Nat) {n : Nat} {f : Nat → Int64} {i : Int32} (v : Int64) (ha : ws[q0]? = some (a, .inl (G.2 1, n, .inr (.inl f)))) (hv : f i.toNatClampNeg = v) (hin : vp_in i n) (hdg : decode cc pc = .ok (.laload, 1))
    (kk : W p l e R s m args below meth c H locs cells slots Q (F0 m (pc + 1) ls (.long v :: rest))) : W p l e R s m args below meth c H locs cells slots Q (F0 m pc ls (.int i :: .ref a :: rest)) := by
  subst hv; exact va_lald C.1 C.2.1 w.2.2.2.1 w.1 q0 1 ha rfl hin hdg kk
theorem r_iast (C : CX p m meth c s args y cc nL ret) (w : WD G A ws s H locs) (q0 : Nat) {n : Nat} {f : Nat → Int32} {i x : Int32} (ws' : va_W) (ha : ws[q0]? = some (a, .inl (G.2 0, n, .inl f))) (hin : vp_in i n) (hws : ws.set q0 (a, .inl (G.2 0, n, .inl (upd f i.toNatClampNeg x))) = ws') (hdg : decode cc pc = .ok (.iastore, 1))
    (kk : ∀ (H1 : Heap) (locs1 : List Loc), WD G A ws' s H1 locs1 → W p l e R s m args below meth c H1 locs1 cells slots Q (F0 m (pc + 1) ls rest)) : W p l e R s m args below meth c H locs cells slots Q (F0 m pc ls (.int x :: .int i :: .ref a :: rest)) :=
  va_iast C.1 C.2.1 w.2.2.2.1 w.1 w.2.1 w.2.2.1 q0 0 ha rfl hin hdg (fun H1 locs1 h1 h2 h3 => kk H1 locs1 ⟨hws ▸ h1, hws ▸ h2, h3, w.2.2.2⟩)
theorem r_zast (C : CX p m meth c s args y cc nL ret) (w : WD G A ws s H locs) (q0 : Nat) {n : Nat} {f : Nat → Int32} {i x : Int32} (ws' : va_W) (ha : ws[q0]? = some (a, .inl (G.2 2, n, .inl f))) (hx : vp_nar .boolean x = x) (hin : vp_in i n) (hws : ws.set q0 (a, .inl (G.2 2, n, .inl (upd f i.toNatClampNeg x))) = ws') (hdg : decode cc pc = .ok (.bastore, 1))
    (kk : ∀ (H1 : Heap) (locs1 : List Loc), WD G A ws' s H1 locs1 → W p l e R s m args below meth c H1 locs1 cells slots Q (F0 m (pc + 1) ls rest)) : W p l e R s m args below meth c H locs cells slots Q (F0 m pc ls (.int x :: .int i :: .ref a :: rest)) :=
  va_zast C.1 C.2.1 w.2.2.2.1 w.1 w.2.1 w.2.2.1 q0 2 ha rfl hin hdg (fun H1 locs1 h1 h2 h3 => by rw [hx] at h1 h2; exact kk H1 locs1 ⟨hws ▸ h1, hws ▸ h2, h3, w.2.2.2⟩)
theorem r_last (C : CX p m meth c s args y cc nL ret) (w : WD G A ws s H locs) (q0 : Nat) {n : Nat} {f : Nat → Int64} {i : Int32} {x : Int64} (ws' : va_W) (ha : ws[q0]? = some (a, .inl (G.2 1, n, .inr (.inl f)))) (hin : vp_in i n) (hws : ws.set q0 (a, .inl (G.2 1, n, .inr (.inl (vp_updL f i.toNatClampNeg x)))) = ws') (hdg : decode cc pc = .ok (.lastore, 1))
    (kk : ∀ (H1 : Heap) (locs1 : List Loc), WD G A ws' s H1 locs1 → W p l e R s m args below meth c H1 locs1 cells slots Q (F0 m (pc + 1) ls rest)) : W p l e R s m args below meth c H locs cells slots Q (F0 m pc ls (.long x :: .int i :: .ref a :: rest)) :=
  va_last C.1 C.2.1 w.2.2.2.1 w.1 w.2.1 w.2.2.1 q0 1 ha rfl hin hdg (fun H1 locs1 h1 h2 h3 => kk H1 locs1 ⟨hws ▸ h1, hws ▸ h2, h3, w.2.2.2⟩)
/-- returns -/
theorem ret_I (C : CX p m meth c s args y cc nL (some .int)) (w : WD G A ws s H locs) {v r : Int32} {ws' : va_W} (hv : v = r) (hws : ws = ws') (hdg : decode cc pc = .ok (.ireturn, 1)) : W p l e R s m args below meth c H locs 0 0 (EnI below G A args s ws' r) (F0 m pc ls [.int v]) := by
  subst hv; subst hws
  have hlk := C.2.2.2.2.2.1
  exact W.iret (free := A) C.1 C.2.1 C.2.2.1 (fun t ht hW => ⟨⟨v, (), rfl, rfl, by rw [ht]; exact w.1, va_K.moved hW.alike w.2.2.2.1, w.2.1⟩, w.2.2.1.F ht⟩) w.2.2.1.2.2 hdg
theorem ret_Z (C : CX p m meth c s args y cc nL (some .boolean)) (w : WD G A ws s H locs) {v r : Int32} {ws' : va_W} (hb : v = 0 ∨ v = 1) (hv : v = r) (hws : ws = ws') (hdg : decode cc pc = .ok (.ireturn, 1)) : W p l e R s m args below meth c H locs 0 0 (EnI below G A args s ws' r) (F0 m pc ls [.int v]) := by
  subst hv; subst hws
  have hlk := C.2.2.2.2.2.1
  exact W.zret (free := A) (ty := .boolean) C.1 C.2.1 C.2.2.1 (by rcases hb with rfl | rfl <;> rfl) (fun t ht hW => ⟨⟨v, (), rfl, rfl, by rw [ht]; exact w.1, va_K.moved hW.alike w.2.2.2.1, w.2.1⟩, w.2.2.1.F ht⟩) w.2.2.1.2.2 hdg
theorem ret_L (C : CX p m meth c s args y cc nL (some .long)) (w : WD G A ws s H locs) {v r : Int64} {ws' : va_W} (hv : v = r) (hws : ws = ws') (hdg : decode cc pc = .ok (.lreturn, 1)) : W p l e R s m args below meth c H locs 0 0 (EnL below G A args s ws' r) (F0 m pc ls [.long v]) := by
  subst hv; subst hws
  have hlk := C.2.2.2.2.2.1
  exact W.lret (free := A) C.1 C.2.1 C.2.2.1 (fun t ht hW => ⟨⟨v, (), rfl, rfl, by rw [ht]; exact w.1, va_K.moved hW.alike w.2.2.2.1, w.2.1⟩, w.2.2.1.F ht⟩) w.2.2.1.2.2 hdg
theorem ret_V (C : CX p m meth c s args y cc nL none) (w : WD G A ws s H locs) {ws' : va_W} (hws : ws = ws') (hdg : decode cc pc = .ok (.return_, 1)) : W p l e R s m args below meth c H locs 0 0 (EnV below G A args s ws') (F0 m pc ls []) := by
  subst hws
  have hlk := C.2.2.2.2.2.1
  exact W.vret (free := A) C.1 C.2.1 C.2.2.1 (fun t ht hW => ⟨⟨(), rfl, trivial, by rw [ht]; exact w.1, va_K.moved hW.alike w.2.2.2.1, w.2.1⟩, w.2.2.1.F ht⟩) w.2.2.1.2.2 hdg
/-- calls -/
theorem WD.pb {pre wc post : va_W} (hnw : NWs s) (w : WD G A (pre ++ (wc ++ post)) s H locs) : ∀ U : State, U.heap = H → s.WarmedH U.vm → PB G wc H.size U := by
  intro U hU hW
  have hF := seg_A w.2.1 w.2.2.1 w.2.2.2.2.1
  refine ⟨by rw [hU], by rw [hU]; exact seg_P w.1, va_K.moved hW.alike w.2.2.2.1, seg_D w.2.1 (fun _ _ => trivial), hnw.warm hW, ?_⟩
  rw [hU]
  exact (ZT.moved hW.alike (w.2.2.2.2.2.kept w.2.2.1.2.1)).narrow hF
theorem WD.seg {pre wc wc' post : va_W} {t : State} {H1 : Heap} {locs1 : List Loc} (w : WD G A (pre ++ (wc ++ post)) s H locs) (ht : t.heap = H1) (hB : QB G wc' (va_A wc H.size) t) (hk : ∀ q : Nat, q < H.size → ¬ va_A wc H.size q → H1[q]? = H[q]?) (hS : va_S A s.heap H1 locs1) : WD G A (pre ++ (wc' ++ post)) s H1 locs1 := by
  obtain ⟨hP1, hK1, hD1⟩ := hB
  rw [ht] at hP1
  obtain ⟨h1, h2⟩ := seg_join w.1 w.2.1 hk (seg_A w.2.1 w.2.2.1 w.2.2.2.2.1) hP1 hD1
  exact ⟨h1, h2, hS, w.2.2.2⟩
theorem cl_i {pre wc wc' post : va_W} {r : Int32} {st0 : List Value} {av : Array Value} (w : WD G A (pre ++ (wc ++ post)) s H locs) (hr : va_Run p l e R s m args below meth c H locs cells slots 0 0 (F0 m pc ls st0) rest (va_Qi (fun x (_ : Unit) => x = r) (fun _ t => QB G wc' (va_A wc H.size) t) (va_A wc H.size) av) (va_A wc H.size))
    (kk : ∀ (H1 : Heap) (locs1 : List Loc), WD G A (pre ++ (wc' ++ post)) s H1 locs1 → W p l e R s m args below meth c H1 locs1 cells slots Q (F0 m (pc + 3) ls (.int r :: rest))) : W p l e R s m args below meth c H locs cells slots Q (F0 m pc ls st0) := by
  have hF := seg_A w.2.1 w.2.2.1 w.2.2.2.2.1
  refine va_calli hr w.2.2.1 (fun q _ h => hF q h) hF (fun x u t H1 locs1 ht hvm hx hB hz hk hS => ?_)
  subst hx
  exact kk H1 locs1 (w.seg ht hB hk hS)
theorem cl_l {pre wc wc' post : va_W} {r : Int64} {st0 : List Value} {av : Array Value} (w : WD G A (pre ++ (wc ++ post)) s H locs) (hr : va_Run p l e R s m args below meth c H locs cells slots 0 0 (F0 m pc ls st0) rest (va_Ql (fun x (_ : Unit) => x = r) (fun _ t => QB G wc' (va_A wc H.size) t) (va_A wc H.size) av) (va_A wc H.size))
    (kk : ∀ (H1 : Heap) (locs1 : List Loc), WD G A (pre ++ (wc' ++ post)) s H1 locs1 → W p l e R s m args below meth c H1 locs1 cells slots Q (F0 m (pc + 3) ls (.long r :: rest))) : W p l e R s m args below meth c H locs cells slots Q (F0 m pc ls st0) := by
  have hF := seg_A w.2.1 w.2.2.1 w.2.2.2.2.1
  refine va_calll hr w.2.2.1 (fun q _ h => hF q h) hF (fun x u t H1 locs1 ht hvm hx hB hz hk hS => ?_)
  subst hx
  exact kk H1 locs1 (w.seg ht hB hk hS)
theorem cl_v {pre wc wc' post : va_W} {st0 : List Value} {av : Array Value} (w : WD G A (pre ++ (wc ++ post)) s H locs) (hr : va_Run p l e R s m args below meth c H locs cells slots 0 0 (F0 m pc ls st0) rest (va_Qv (fun (_ : Unit) => True) (fun _ t => QB G wc' (va_A wc H.size) t) (va_A wc H.size) av) (va_A wc H.size))
    (kk : ∀ (H1 : Heap) (locs1 : List Loc), WD G A (pre ++ (wc' ++ post)) s H1 locs1 → W p l e R s m args below meth c H1 locs1 cells slots Q (F0 m (pc + 3) ls rest)) : W p l e R s m args below meth c H locs cells slots Q (F0 m pc ls st0) := by
  have hF := seg_A w.2.1 w.2.2.1 w.2.2.2.2.1
  refine va_callv hr w.2.2.1 (fun q _ h => hF q h) hF (fun u t H1 locs1 ht hvm hx hB hz hk hS => ?_)
  exact kk H1 locs1 (w.seg ht hB hk hS)
variable {y' : MethodName} {cc' : ByteArray} {nL' na idx mc ms : Nat} {ret' : Option FieldType} {rm' : Room} {Qc : Array Value → State → Outcome → State → Prop} {free : Addr → Prop} {As st : List Value} {b : Nat} {host : String}
theorem cb_of (C : CX p m meth c s args y cc nL ret) (mt : MTd y' cc' nL' ret' na) (hl : Cond.methodLink y.cls idx y' ∈ TT) (hR : rm'.frames + 1 ≤ R.frames ∧ 8 + (nL' + 11) + rm'.locals ≤ R.locals) : CallB R s args y.cls idx y' cc' nL' ret' (WS y' cc' nL' ret') rm' rm'.cells rm'.slots na :=
  callB_of (Ts := WS y cc nL ret) na C.2.2.2.2.2.2.2.1 (gd_ws mt.1) rfl rfl rfl (C.ts mt.2.1) (C.ts hl) ⟨mt.2.2.1.1, mt.2.2.1.2, mt.2.2.2⟩ hR
theorem cn_of (C : CX p m meth c s args y cc nL ret) (mt : MTd y' cc' nL' ret' na) (hl : Cond.methodLinkNest y.cls idx y' host ∈ NT) (hR : rm'.frames + 1 ≤ R.frames ∧ 8 + (nL' + 11) + rm'.locals ≤ R.locals) : va_CN R s args y.cls idx y' host cc' nL' ret' (WS y' cc' nL' ret') rm' rm'.cells rm'.slots na :=
  va_cnB (Ts := WS y cc nL ret) na C.2.2.2.2.2.2.2.1 (gd_ws mt.1) rfl rfl rfl (C.2.2.2.2.2.2.2.2.1 _ hl) (C.ts mt.2.1) ⟨mt.2.2.1.1, mt.2.2.1.2, mt.2.2.2⟩ hR
theorem run_V {pre wc post : va_W} {fs : List Value} (C : CX p m meth c s args y cc nL ret) (w : WD G A (pre ++ (wc ++ post)) s H locs) (hM : Met l y' (WS y' cc' nL' ret') rm' (va_Pc (.ref b :: As) (PB G wc H.size)) Qc rm'.cells rm'.slots free) (mt : MTv y' cc' nL' ret' na) (hl : Cond.methodLink y.cls idx y' ∈ TT) (ci : Nat) {T : u_T} {N : Nat} (hc : vwCl[ci]? = some (y'.cls, T, N)) (he : wc[0]? = some (b, .inr (ci, fs))) (hna : As.length = na) (hstk : st = As.reverse ++ .ref b :: rest) (hR : rm'.frames + 1 ≤ R.frames ∧ 8 + (nL' + 11) + rm'.locals ≤ R.locals) (hsz : ls.size = nL) (hst : (rest.map fun v => v.category).sum ≤ 8) (hdg : decode cc pc = .ok (.invokevirtual idx, 3)) (hf : cells + rm'.cells ≤ R.cells ∧ slots + rm'.slots ≤ R.slots) :
    va_Run p l e R s m args below meth c H locs cells slots rm'.cells rm'.slots (F0 m pc ls st) rest (Qc (Value.ref b :: As).toArray) free :=
  va_runV (As := As) (rest := rest) (Ts := WS y cc nL ret) (own := y.cls) (C := y'.cls) (n := na) ⟨C.1, C.2.1, C.2.2.2.1, C.2.2.2.2.1, C.2.2.2.2.2.2.2.1⟩ hM ⟨cb_of C mt.1 hl hR, C.ts mt.2.1, C.ts mt.2.2⟩ ⟨pb_blind, va_recv w.2.2.2.1 (seg_P w.1) hc he, fun U hU hW => ⟨rfl, w.pb C.2.2.2.2.2.2.2.2 U hU hW⟩⟩ rfl hna hsz hstk (lv_room hst) hdg hf
theorem run_VN {pre wc post : va_W} {fs : List Value} (C : CX p m meth c s args y cc nL ret) (w : WD G A (pre ++ (wc ++ post)) s H locs) (hM : Met l y' (WS y' cc' nL' ret') rm' (va_Pc (.ref b :: As) (PB G wc H.size)) Qc rm'.cells rm'.slots free) (mt : MTv y' cc' nL' ret' na) (hl : Cond.methodLinkNest y.cls idx y' host ∈ NT) (ci : Nat) {T : u_T} {N : Nat} (hc : vwCl[ci]? = some (y'.cls, T, N)) (he : wc[0]? = some (b, .inr (ci, fs))) (hna : As.length = na) (hstk : st = As.reverse ++ .ref b :: rest) (hR : rm'.frames + 1 ≤ R.frames ∧ 8 + (nL' + 11) + rm'.locals ≤ R.locals) (hsz : ls.size = nL) (hst : (rest.map fun v => v.category).sum ≤ 8) (hdg : decode cc pc = .ok (.invokevirtual idx, 3)) (hf : cells + rm'.cells ≤ R.cells ∧ slots + rm'.slots ≤ R.slots) :
    va_Run p l e R s m args below meth c H locs cells slots rm'.cells rm'.slots (F0 m pc ls st) rest (Qc (Value.ref b :: As).toArray) free :=
  va_runVN (As := As) (rest := rest) (Ts := WS y cc nL ret) (own := y.cls) (C := y'.cls) (n := na) ⟨C.1, C.2.1, C.2.2.2.1, C.2.2.2.2.1, C.2.2.2.2.2.2.2.1⟩ hM ⟨cn_of C mt.1 hl hR, C.ts mt.2.1, C.ts mt.2.2⟩ ⟨pb_blind, va_recv w.2.2.2.1 (seg_P w.1) hc he, fun U hU hW => ⟨rfl, w.pb C.2.2.2.2.2.2.2.2 U hU hW⟩⟩ rfl hna hsz hstk (lv_room hst) hdg hf
theorem run_S {pre wc post : va_W} (C : CX p m meth c s args y cc nL ret) (w : WD G A (pre ++ (wc ++ post)) s H locs) (hM : Met l y' (WS y' cc' nL' ret') rm' (va_Pc As (PB G wc H.size)) Qc rm'.cells rm'.slots free) (mt : MTs y' cc' nL' ret' na) (hl : Cond.methodLink y.cls idx y' ∈ TT) (hna : As.length = na) (hstk : st = As.reverse ++ rest) (hR : rm'.frames + 1 ≤ R.frames ∧ 8 + (nL' + 11) + rm'.locals ≤ R.locals) (hsz : ls.size = nL) (hst : (rest.map fun v => v.category).sum ≤ 8) (hdg : decode cc pc = .ok (.invokestatic idx, 3)) (hf : cells + rm'.cells ≤ R.cells ∧ slots + rm'.slots ≤ R.slots) :
    va_Run p l e R s m args below meth c H locs cells slots rm'.cells rm'.slots (F0 m pc ls st) rest (Qc As.toArray) free :=
  va_runS (As := As) (rest := rest) (Ts := WS y cc nL ret) (own := y.cls) (n := na) ⟨C.1, C.2.1, C.2.2.2.1, C.2.2.2.2.1, C.2.2.2.2.2.2.2.1⟩ hM ⟨cb_of C mt.1 hl hR, C.ts mt.2⟩ ⟨pb_blind, fun U hU hW => ⟨rfl, w.pb C.2.2.2.2.2.2.2.2 U hU hW⟩⟩ rfl hna hsz hstk (lv_room hst) hdg hf
theorem run_SN {pre wc post : va_W} (C : CX p m meth c s args y cc nL ret) (w : WD G A (pre ++ (wc ++ post)) s H locs) (hM : Met l y' (WS y' cc' nL' ret') rm' (va_Pc As (PB G wc H.size)) Qc rm'.cells rm'.slots free) (mt : MTs y' cc' nL' ret' na) (hl : Cond.methodLinkNest y.cls idx y' host ∈ NT) (hna : As.length = na) (hstk : st = As.reverse ++ rest) (hR : rm'.frames + 1 ≤ R.frames ∧ 8 + (nL' + 11) + rm'.locals ≤ R.locals) (hsz : ls.size = nL) (hst : (rest.map fun v => v.category).sum ≤ 8) (hdg : decode cc pc = .ok (.invokestatic idx, 3)) (hf : cells + rm'.cells ≤ R.cells ∧ slots + rm'.slots ≤ R.slots) :
    va_Run p l e R s m args below meth c H locs cells slots rm'.cells rm'.slots (F0 m pc ls st) rest (Qc As.toArray) free :=
  va_runSN (As := As) (rest := rest) (Ts := WS y cc nL ret) (own := y.cls) (n := na) ⟨C.1, C.2.1, C.2.2.2.1, C.2.2.2.2.1, C.2.2.2.2.2.2.2.1⟩ hM ⟨cn_of C mt.1 hl hR, C.ts mt.2, trivial⟩ ⟨pb_blind, fun U hU hW => ⟨rfl, w.pb C.2.2.2.2.2.2.2.2 U hU hW⟩⟩ rfl hna hsz hstk (lv_room hst) hdg hf
theorem run_I {pre wc post : va_W} (C : CX p m meth c s args y cc nL ret) (w : WD G A (pre ++ (wc ++ post)) s H locs) (hM : Met l y' (WS y' cc' nL' none) rm' (va_Pc (.ref b :: As) (PB G wc H.size)) Qc rm'.cells rm'.slots free) (mt : MTi y' cc' nL' none na) (hl : Cond.methodLink y.cls idx y' ∈ TT) (hna : As.length = na) (hstk : st = As.reverse ++ .ref b :: rest) (hR : rm'.frames + 1 ≤ R.frames ∧ 8 + (nL' + 11) + rm'.locals ≤ R.locals) (hsz : ls.size = nL) (hst : (rest.map fun v => v.category).sum ≤ 8) (hdg : decode cc pc = .ok (.invokespecial idx, 3)) (hf : cells + rm'.cells ≤ R.cells ∧ slots + rm'.slots ≤ R.slots) :
    va_Run p l e R s m args below meth c H locs cells slots rm'.cells rm'.slots (F0 m pc ls st) rest (Qc (Value.ref b :: As).toArray) free :=
  va_runI (As := As) (rest := rest) (Ts := WS y cc nL ret) (own := y.cls) (n := na) ⟨C.1, C.2.1, C.2.2.2.1, C.2.2.2.2.1, C.2.2.2.2.2.2.2.1⟩ hM ⟨cb_of C mt.1 hl hR, mt.2.1, C.ts mt.2.2⟩ ⟨pb_blind, fun U hU hW => ⟨rfl, w.pb C.2.2.2.2.2.2.2.2 U hU hW⟩⟩ rfl hna hsz hstk (lv_room hst) hdg hf
theorem run_IN {pre wc post : va_W} (C : CX p m meth c s args y cc nL ret) (w : WD G A (pre ++ (wc ++ post)) s H locs) (hM : Met l y' (WS y' cc' nL' none) rm' (va_Pc (.ref b :: As) (PB G wc H.size)) Qc rm'.cells rm'.slots free) (mt : MTi y' cc' nL' none na) (hl : Cond.methodLinkNest y.cls idx y' host ∈ NT) (hna : As.length = na) (hstk : st = As.reverse ++ .ref b :: rest) (hR : rm'.frames + 1 ≤ R.frames ∧ 8 + (nL' + 11) + rm'.locals ≤ R.locals) (hsz : ls.size = nL) (hst : (rest.map fun v => v.category).sum ≤ 8) (hdg : decode cc pc = .ok (.invokespecial idx, 3)) (hf : cells + rm'.cells ≤ R.cells ∧ slots + rm'.slots ≤ R.slots) :
    va_Run p l e R s m args below meth c H locs cells slots rm'.cells rm'.slots (F0 m pc ls st) rest (Qc (Value.ref b :: As).toArray) free :=
  va_runIN (As := As) (rest := rest) (Ts := WS y cc nL ret) (own := y.cls) (n := na) ⟨C.1, C.2.1, C.2.2.2.1, C.2.2.2.2.1, C.2.2.2.2.2.2.2.1⟩ hM ⟨cn_of C mt.1 hl hR, mt.2.1, C.ts mt.2.2⟩ ⟨pb_blind, fun U hU hW => ⟨rfl, w.pb C.2.2.2.2.2.2.2.2 U hU hW⟩⟩ rfl hna hsz hstk (lv_room hst) hdg hf
end CORE
