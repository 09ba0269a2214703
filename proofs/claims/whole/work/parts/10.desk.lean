/-! the desk with its kinds and cases -/
def kCells (G : GG) (kad : Nat → Nat → Nat) (KI : Nat → Nat → Int32) (KA : Nat → Nat → Nat → Int32) (i : Nat) : va_W := w_X2 G (kad i) (KI i) (KA i)
def cCells (G : GG) (kad cad : Nat → Nat → Nat) (CK : Nat → Nat) (CD : Nat → Nat → Int32) (j : Nat) : va_W := [(cad j 0, .inr (0, [.ref (kad (CK j) 0), .ref (cad j 1)])), (cad j 1, .inl (G.2 0, 6, .inl (CD j)))]
def refs (n : Nat) (ad : Nat → Nat → Nat) : Nat → Option Nat := fun j => if j < n then some (ad j 0) else none
def aK (G : GG) (ad : Nat → Nat) (r : Nat → Option Nat) : Nat × va_E := (ad 16, .inl (G.2 3, 4, .inr (.inr (.inr (.inr r)))))
def aC (G : GG) (ad : Nat → Nat) (r : Nat → Option Nat) : Nat × va_E := (ad 17, .inl (G.2 4, 16, .inr (.inr (.inr (.inr r)))))
def w_PL (G : GG) (ad : Nat → Nat) (kad cad : Nat → Nat → Nat) (I : Nat → Int32) (R : Nat → Int32) (WI : Nat → Int32) (WA : Nat → Nat → Int32) (GI : Nat → Int32) (GA : Nat → Nat → Int32) (LI : Nat → Int32) (LA : Nat → Nat → Int32) (LJ : Nat → Nat → Int64) (nK nC : Nat) (KI : Nat → Nat → Int32) (KA : Nat → Nat → Nat → Int32) (CK : Nat → Nat) (CD : Nat → Nat → Int32) : va_W := w_X5 G ad I R WI WA GI GA LI LA LJ ++ (aK G ad (refs nK kad) :: aC G ad (refs nC cad) :: ((List.range nK).flatMap (kCells G kad KI KA) ++ (List.range nC).flatMap (cCells G kad cad CK CD)))
def uN {α : Type} (f : Nat → α) (i : Nat) (v : α) : Nat → α := fun j => if j = i then v else f j
def kIx (n : Nat) (a : Int32) : Option Nat := if 0 ≤ a ∧ a < nI n then some a.toNatClampNeg else none
theorem kIx_lt {n : Nat} (hn : n < 2 ^ 31) {a : Int32} {i : Nat} (h : kIx n a = some i) : i < n ∧ a = nI i := by
  unfold kIx at h
  split at h
  · rename_i hc
    cases h
    obtain ⟨j, hj, rfl⟩ := nI_of (Int32.not_lt.mpr hc.1)
    have h2 := (nI_ltI hj hn).mp hc.2
    rw [nI_clamp hj]
    exact ⟨h2, rfl⟩
  · cases h
theorem rng_pick {α : Type} (f : Nat → List α) {i n : Nat} (h : i < n) : ((List.range n).flatMap f).Perm (f i ++ ((List.range n).erase i).flatMap f) :=
  (List.perm_cons_erase (List.mem_range.mpr h)).flatMap_right f
theorem rng_rest {α : Type} {f g : Nat → List α} {i n : Nat} (h : ∀ j, j ≠ i → f j = g j) : ((List.range n).erase i).flatMap f = ((List.range n).erase i).flatMap g := by
  rw [List.flatMap_def, List.flatMap_def, List.map_congr_left fun a ha => h a ((List.Nodup.mem_erase_iff List.nodup_range).mp ha).1]
theorem rng_ext {α : Type} {f g : Nat → List α} {n : Nat} (h : ∀ j, j < n → f j = g j) : (List.range n).flatMap f = (List.range n).flatMap g := by
  rw [List.flatMap_def, List.flatMap_def, List.map_congr_left fun a ha => h a (List.mem_range.mp ha)]
theorem rng_succ {α : Type} (f : Nat → List α) (n : Nat) : (List.range (n + 1)).flatMap f = (List.range n).flatMap f ++ f n := by
  rw [List.range_succ, List.flatMap_append]; simp
theorem pm_K {α : Type} {T K k K' C : List α} {a b : α} (h : K.Perm (k ++ K')) : (T ++ (a :: b :: (K ++ C))).Perm (k ++ (b :: (T ++ (a :: (K' ++ C))))) := by
  have h1 : (T ++ (a :: b :: (K ++ C))).Perm (T ++ (a :: b :: (k ++ (K' ++ C)))) := by
    rw [← List.append_assoc k]
    exact ((List.Perm.append_right C h).cons b |>.cons a).append_left T
  have h2 : (T ++ (a :: b :: (k ++ (K' ++ C)))).Perm (T ++ (k ++ (a :: b :: (K' ++ C)))) := (List.perm_append_comm_assoc [a, b] k (K' ++ C)).append_left T
  have h3 : (T ++ (k ++ (a :: b :: (K' ++ C)))).Perm (k ++ (T ++ (a :: b :: (K' ++ C)))) := List.perm_append_comm_assoc T k _
  have h4 : (T ++ (a :: b :: (K' ++ C))).Perm (b :: (T ++ (a :: (K' ++ C)))) := ((List.Perm.swap b a _).append_left T).trans List.perm_middle
  exact h1.trans (h2.trans (h3.trans (h4.append_left k)))
theorem pm_C {α : Type} {V L A K k K' C c C' : List α} {r : α} (hK : K.Perm (k ++ K')) (hC : C.Perm (c ++ C')) : (r :: (V ++ (L ++ (A ++ (K ++ C))))).Perm (c ++ (k ++ (r :: (L ++ (V ++ (A ++ (K' ++ C'))))))) := by
  have e : ∀ Y : List α, r :: (V ++ (L ++ (A ++ Y))) = (r :: (V ++ (L ++ A))) ++ Y := fun Y => by simp
  have h1 : (K ++ C).Perm (c ++ (k ++ (K' ++ C'))) := by
    refine (hK.append hC).trans ?_
    refine (List.perm_append_comm_assoc (k ++ K') c C').trans ?_
    rw [List.append_assoc k K' C']
  have h2 : (r :: (V ++ (L ++ (A ++ (K ++ C))))).Perm ((r :: (V ++ (L ++ A))) ++ (c ++ (k ++ (K' ++ C')))) := by
    rw [e]; exact h1.append_left _
  have h3 := List.perm_append_comm_assoc (r :: (V ++ (L ++ A))) c (k ++ (K' ++ C'))
  have h4 := (List.perm_append_comm_assoc (r :: (V ++ (L ++ A))) k (K' ++ C')).append_left c
  refine h2.trans (h3.trans (h4.trans ?_))
  rw [← e]
  exact (((List.perm_append_comm_assoc V L (A ++ (K' ++ C'))).cons r).append_left k).append_left c
def tlK (G : GG) (ad : Nat → Nat) (kad cad : Nat → Nat → Nat) (I : Nat → Int32) (R : Nat → Int32) (WI : Nat → Int32) (WA : Nat → Nat → Int32) (GI : Nat → Int32) (GA : Nat → Nat → Int32) (LI : Nat → Int32) (LA : Nat → Nat → Int32) (LJ : Nat → Nat → Int64) (nK nC : Nat) (KI : Nat → Nat → Int32) (KA : Nat → Nat → Nat → Int32) (CK : Nat → Nat) (CD : Nat → Nat → Int32) (i : Nat) : va_W := aC G ad (refs nC cad) :: ((w_X5 G ad (fun _ => 0) R WI WA GI GA LI LA LJ).drop 1 ++ (aK G ad (refs nK kad) :: (((List.range nK).erase i).flatMap (kCells G kad KI KA) ++ (List.range nC).flatMap (cCells G kad cad CK CD))))
def tlC (G : GG) (ad : Nat → Nat) (kad cad : Nat → Nat → Nat) (I : Nat → Int32) (R : Nat → Int32) (WI : Nat → Int32) (WA : Nat → Nat → Int32) (GI : Nat → Int32) (GA : Nat → Nat → Int32) (LI : Nat → Int32) (LA : Nat → Nat → Int32) (LJ : Nat → Nat → Int64) (nK nC : Nat) (KI : Nat → Nat → Int32) (KA : Nat → Nat → Nat → Int32) (CK : Nat → Nat) (CD : Nat → Nat → Int32) (i j : Nat) : va_W := ((w_X5 G ad (fun _ => 0) R WI WA GI GA LI LA LJ).drop 2).take 11 ++ ([aK G ad (refs nK kad), aC G ad (refs nC cad)] ++ (((List.range nK).erase i).flatMap (kCells G kad KI KA) ++ ((List.range nC).erase j).flatMap (cCells G kad cad CK CD)))
theorem permK (G : GG) (ad : Nat → Nat) (kad cad : Nat → Nat → Nat) (I : Nat → Int32) (R : Nat → Int32) (WI : Nat → Int32) (WA : Nat → Nat → Int32) (GI : Nat → Int32) (GA : Nat → Nat → Int32) (LI : Nat → Int32) (LA : Nat → Nat → Int32) (LJ : Nat → Nat → Int64) (nK nC : Nat) (KI : Nat → Nat → Int32) (KA : Nat → Nat → Nat → Int32) (CK : Nat → Nat) (CD : Nat → Nat → Int32) {i : Nat} (h : i < nK) : (w_PL G ad kad cad I R WI WA GI GA LI LA LJ nK nC KI KA CK CD).Perm (w_XK G ad (kad i) I (KI i) (KA i) (tlK G ad kad cad I R WI WA GI GA LI LA LJ nK nC KI KA CK CD i)) :=
  List.Perm.cons _ (pm_K (T := (w_X5 G ad (fun _ => 0) R WI WA GI GA LI LA LJ).drop 1) (k := w_X2 G (kad i) (KI i) (KA i)) (rng_pick (kCells G kad KI KA) h))
theorem permC (G : GG) (ad : Nat → Nat) (kad cad : Nat → Nat → Nat) (I : Nat → Int32) (R : Nat → Int32) (WI : Nat → Int32) (WA : Nat → Nat → Int32) (GI : Nat → Int32) (GA : Nat → Nat → Int32) (LI : Nat → Int32) (LA : Nat → Nat → Int32) (LJ : Nat → Nat → Int64) (nK nC : Nat) (KI : Nat → Nat → Int32) (KA : Nat → Nat → Nat → Int32) (CK : Nat → Nat) (CD : Nat → Nat → Int32) {i j : Nat} (hj : j < nC) (hi : CK j = i) (h : i < nK) : (w_PL G ad kad cad I R WI WA GI GA LI LA LJ nK nC KI KA CK CD).Perm (w_XC G ad (cad j) (kad i) I (CD j) (KI i) (KA i) R LI LA LJ (tlC G ad kad cad I R WI WA GI GA LI LA LJ nK nC KI KA CK CD i j)) := by
  subst hi
  exact List.Perm.cons _ (pm_C (V := ((w_X5 G ad (fun _ => 0) R WI WA GI GA LI LA LJ).drop 2).take 11) (L := (w_X5 G ad (fun _ => 0) R WI WA GI GA LI LA LJ).drop 13) (A := [aK G ad (refs nK kad), aC G ad (refs nC cad)]) (k := w_X2 G (kad (CK j)) (KI (CK j)) (KA (CK j))) (c := cCells G kad cad CK CD j) (rng_pick (kCells G kad KI KA) h) (rng_pick (cCells G kad cad CK CD) hj))
theorem tlK_eq (G : GG) (ad : Nat → Nat) (kad cad : Nat → Nat → Nat) (I : Nat → Int32) (R : Nat → Int32) (WI : Nat → Int32) (WA : Nat → Nat → Int32) (GI : Nat → Int32) (GA : Nat → Nat → Int32) (LI : Nat → Int32) (LA : Nat → Nat → Int32) (LJ : Nat → Nat → Int64) (nK nC : Nat) (KI : Nat → Nat → Int32) (KA : Nat → Nat → Nat → Int32) (CK : Nat → Nat) (CD : Nat → Nat → Int32) {i : Nat} (I' k1 : Nat → Int32) (k2 : Nat → Nat → Int32) : tlK G ad kad cad I' R WI WA GI GA LI LA LJ nK nC (uN KI i k1) (uN KA i k2) CK CD i = tlK G ad kad cad I R WI WA GI GA LI LA LJ nK nC KI KA CK CD i := by
  unfold tlK
  rw [rng_rest (f := kCells G kad (uN KI i k1) (uN KA i k2)) (g := kCells G kad KI KA) (fun j hj => by simp [kCells, uN, hj])]
theorem tlC_eq (G : GG) (ad : Nat → Nat) (kad cad : Nat → Nat → Nat) (I : Nat → Int32) (R : Nat → Int32) (WI : Nat → Int32) (WA : Nat → Nat → Int32) (GI : Nat → Int32) (GA : Nat → Nat → Int32) (LI : Nat → Int32) (LA : Nat → Nat → Int32) (LJ : Nat → Nat → Int64) (nK nC : Nat) (KI : Nat → Nat → Int32) (KA : Nat → Nat → Nat → Int32) (CK : Nat → Nat) (CD : Nat → Nat → Int32) {i j : Nat} (I' R' d' k1 LI' : Nat → Int32) (k2 LA' : Nat → Nat → Int32) (LJ' : Nat → Nat → Int64) : tlC G ad kad cad I' R' WI WA GI GA LI' LA' LJ' nK nC (uN KI i k1) (uN KA i k2) CK (uN CD j d') i j = tlC G ad kad cad I R WI WA GI GA LI LA LJ nK nC KI KA CK CD i j := by
  unfold tlC
  rw [rng_rest (f := kCells G kad (uN KI i k1) (uN KA i k2)) (g := kCells G kad KI KA) (fun q hq => by simp [kCells, uN, hq]), rng_rest (f := cCells G kad cad CK (uN CD j d')) (g := cCells G kad cad CK CD) (fun q hq => by simp [cCells, uN, hq])]
  rfl
theorem uN_s {α : Type} (f : Nat → α) (i : Nat) (v : α) : uN f i v i = v := by simp [uN]
section DESK
variable {p : Program} {l : Launch} {e : Env} {R0 : Room} {s : State} {m : MethodId} {args : Array Value} {below : List Frame} {meth : Method} {c : Code} {H : Heap} {locs : List Loc} {cells slots : Nat} {Q : State → Prop}
variable {cc : ByteArray} {pc : Nat} {ls : Array Slot} {rest : List Value} {A : Nat → Prop} {a : Nat} {ws : va_W} {y : MethodName} {nL : Nat} {ret : Option FieldType} {G : GG}
theorem WD.perm {ws' : va_W} (w : WD G A ws s H locs) (h : ws.Perm ws') : WD G A ws' s H locs :=
  ⟨va_P_mem.mpr fun q hq => va_P_mem.mp w.1 q (h.mem_iff.mpr hq), va_D_iff.mpr ⟨((h.map Prod.fst).nodup_iff).mp (va_D_iff.mp w.2.1).1, fun q hq => (va_D_iff.mp w.2.1).2 q (h.mem_iff.mpr hq)⟩, w.2.2⟩
theorem QB.perm {ws' : va_W} {t : State} (h : ws.Perm ws') (q : QB G ws A t) : QB G ws' A t :=
  ⟨va_P_mem.mpr fun x hx => va_P_mem.mp q.1 x (h.mem_iff.mpr hx), q.2.1, va_D_iff.mpr ⟨((h.map Prod.fst).nodup_iff).mp (va_D_iff.mp q.2.2).1, fun x hx => (va_D_iff.mp q.2.2).2 x (h.mem_iff.mpr hx)⟩⟩
theorem W.mono {Q' : State → Prop} {g : JFrame} (h : W p l e R0 s m args below meth c H locs cells slots Q g) (hq : ∀ t, Q t → Q' t) : W p l e R0 s m args below meth c H locs cells slots Q' g := by
  intro T hT X
  obtain ⟨t, a, b⟩ := h T hT X
  exact ⟨t, a, hq t b⟩
theorem EnI.perm {ws' : va_W} {r : Int32} (h : ws.Perm ws') : ∀ t, EnI below G A args s ws r t → EnI below G A args s ws' r t := by
  rintro t ⟨o, h1, h2, ⟨⟨r', u, h3, h4, h5⟩, h6⟩, h7⟩
  exact ⟨o, h1, h2, ⟨⟨r', u, h3, h4, QB.perm h h5⟩, h6⟩, h7⟩
theorem ret_Q {an : String} (C : CX p m meth c s args y cc nL (some (.object an))) (w : WD G A ws s H locs) {r r' : Option Nat} {ws' : va_W} (hv : r = r') (hws : ws = ws') (hdg : decode cc pc = .ok (.areturn, 1)) : W p l e R0 s m args below meth c H locs 0 0 (MQ below (va_Qq (fun x (_ : Unit) => x = r') (fun _ t => QB G ws' A t) A) args s 0 0 A) (F0 m pc ls [va_rf r]) := by
  subst hv; subst hws
  have hlk := C.2.2.2.2.2.1
  exact W.aret (free := A) C.1 C.2.1 C.2.2.1 (Or.inl ⟨_, rfl⟩) (by cases r <;> simp [va_rf]) (fun t ht hW => ⟨⟨r, (), rfl, rfl, by rw [ht]; exact w.1, va_K.moved hW.alike w.2.2.2.1, w.2.1⟩, w.2.2.1.F ht⟩) w.2.2.1.2.2 hdg
theorem cl_q {pre wc wc' post : va_W} {r : Option Nat} {st0 : List Value} {av : Array Value} (w : WD G A (pre ++ (wc ++ post)) s H locs) (hr : va_Run p l e R0 s m args below meth c H locs cells slots 0 0 (F0 m pc ls st0) rest (va_Qq (fun x (_ : Unit) => x = r) (fun _ t => QB G wc' (va_A wc H.size) t) (va_A wc H.size) av) (va_A wc H.size))
    (kk : ∀ (H1 : Heap) (locs1 : List Loc), WD G A (pre ++ (wc' ++ post)) s H1 locs1 → W p l e R0 s m args below meth c H1 locs1 cells slots Q (F0 m (pc + 3) ls (va_rf r :: rest))) : W p l e R0 s m args below meth c H locs cells slots Q (F0 m pc ls st0) := by
  have hF := seg_A w.2.1 w.2.2.1 w.2.2.2.2.1
  refine va_callq hr w.2.2.1 (fun q _ h => hF q h) hF (fun x u t H1 locs1 ht hvm hx hB hz hk hS => ?_)
  subst hx
  exact kk H1 locs1 (w.seg ht hB hk hS)
theorem r_qald (C : CX p m meth c s args y cc nL ret) (w : WD G A ws s H locs) (q0 t0 : Nat) {cn : String} {n : Nat} {f : Nat → Option Nat} {i : Int32} (r : Option Nat) (ha : ws[q0]? = some (a, .inl (G.2 t0, n, .inr (.inr (.inr (.inr f)))))) (ht : (TY G)[t0]? = some (G.2 t0, .object cn)) (hv : f i.toNatClampNeg = r) (hin : vp_in i n) (hdg : decode cc pc = .ok (.aaload, 1))
    (kk : W p l e R0 s m args below meth c H locs cells slots Q (F0 m (pc + 1) ls (va_rf r :: rest))) : W p l e R0 s m args below meth c H locs cells slots Q (F0 m pc ls (.int i :: .ref a :: rest)) := by
  subst hv; exact va_aldq C.1 C.2.1 w.2.2.2.1 w.1 q0 t0 ha ht hin hdg kk
theorem r_qast (C : CX p m meth c s args y cc nL ret) (w : WD G A ws s H locs) (q0 t0 qk ci : Nat) {cn : String} {T : u_T} {N n v : Nat} {vs : List Value} {f : Nat → Option Nat} {i : Int32} (ws' : va_W) (ha : ws[q0]? = some (a, .inl (G.2 t0, n, .inr (.inr (.inr (.inr f)))))) (ht : (TY G)[t0]? = some (G.2 t0, .object cn)) (hv : ws[qk]? = some (v, .inr (ci, vs))) (hc : vwCl[ci]? = some (cn, T, N)) (hin : vp_in i n) (hws : ws.set q0 (a, .inl (G.2 t0, n, .inr (.inr (.inr (.inr (va_up f i.toNatClampNeg (some v))))))) = ws') (hdg : decode cc pc = .ok (.aastore, 1))
    (kk : ∀ (H1 : Heap) (locs1 : List Loc), WD G A ws' s H1 locs1 → W p l e R0 s m args below meth c H1 locs1 cells slots Q (F0 m (pc + 1) ls rest)) : W p l e R0 s m args below meth c H locs cells slots Q (F0 m pc ls (.ref v :: .int i :: .ref a :: rest)) :=
  va_astq (r := (cn, T, N)) C.1 C.2.1 w.2.2.2.1 w.1 w.2.1 w.2.2.1 q0 t0 qk ci ha ht hv hc hin hdg (fun H1 locs1 h1 h2 h3 => kk H1 locs1 ⟨hws ▸ h1, hws ▸ h2, h3, w.2.2.2⟩)
end DESK
abbrev CtQ (l : Launch) (y : MethodName) (cc : ByteArray) (nL : Nat) (ret : Option FieldType) (rm : Room) (G : GG) (av : List Value) (ws ws' : va_W) (sz : Nat) (r : Option Nat) : Prop := Met l y (WS y cc nL ret) rm (va_Pc av (PB G ws sz)) (va_Qq (fun x (_ : Unit) => x = r) (fun _ t => QB G ws' (va_A ws sz) t) (va_A ws sz)) 0 0 (va_A ws sz)

set_option maxHeartbeats 4000000 in
set_option maxRecDepth 100000 in
theorem c_X5_kindAt (l : Launch) (G : GG) (ad : Nat → Nat) (kad cad : Nat → Nat → Nat) (I : Nat → Int32) (R : Nat → Int32) (WI : Nat → Int32) (WA : Nat → Nat → Int32) (GI : Nat → Int32) (GA : Nat → Nat → Int32) (LI : Nat → Int32) (LA : Nat → Nat → Int32) (LJ : Nat → Nat → Int64) (nK nC : Nat) (KI : Nat → Nat → Int32) (KA : Nat → Nat → Nat → Int32) (CK : Nat → Nat) (CD : Nat → Nat → Int32) (sz : Nat) (a1 : Int32) (hI : I 6 = nI nK) (hn : nK ≤ 4) : CtQ l yX5_kindAt cX5_kindAt 2 (some (.object "WallDesk$Kind")) { frames := 1, cells := 0, slots := 0, locals := 21 } G [.ref (ad 0), .int a1] (w_PL G ad kad cad I R WI WA GI GA LI LA LJ nK nC KI KA CK CD) (w_PL G ad kad cad I R WI WA GI GA LI LA LJ nK nC KI KA CK CD) sz ((kIx nK a1).map (fun i => kad i 0)) := by
  refine ct_of (by decide) (Nat.le_of_ble_eq_true rfl) (fun p e s m below meth c ls C w hsz hl => ?_)
  have hx := C.1
  have hb := C.2.1
  have hl : lv_has ls 2 [(0, .ref (ad 0)), (1, .int a1)] := hl
  have fin : ∀ b : Int32, f_X5_isBelow a1 (I 6) = some b → (b = 0 → kIx nK a1 = none) ∧ (¬ b = 0 → kIx nK a1 = some a1.toNatClampNeg ∧ a1.toNatClampNeg < nK ∧ vp_in a1 4) := by
    intro b hbb
    unfold f_X5_isBelow at hbb
    rw [hI] at hbb
    by_cases c1 : a1 < 0
    · rw [if_pos c1] at hbb
      cases hbb
      exact ⟨fun _ => by unfold kIx; rw [if_neg (fun h => absurd h.1 (Int32.not_le.mpr c1))], fun h => absurd rfl h⟩
    · rw [if_neg c1] at hbb
      by_cases c2 : nI nK ≤ a1
      · rw [if_pos c2] at hbb
        cases hbb
        exact ⟨fun _ => by unfold kIx; rw [if_neg (fun h => absurd h.2 (Int32.not_lt.mpr c2))], fun h => absurd rfl h⟩
      · rw [if_neg c2] at hbb
        cases hbb
        have hk : kIx nK a1 = some a1.toNatClampNeg := by unfold kIx; rw [if_pos ⟨Int32.not_lt.mp c1, Int32.not_le.mp c2⟩]
        obtain ⟨hlt, he⟩ := kIx_lt (by omega) hk
        exact ⟨fun h => absurd h (by decide), fun _ => ⟨hk, hlt, by rw [he]; exact vp_in_nI (by omega) (by decide)⟩⟩
  refine lv_iload_n hx hb dX5_kindAt_0 rfl (lv_at hl 1 rfl) ?_
  refine lv_aload_n hx hb dX5_kindAt_1 rfl (lv_at hl 0 rfl) ?_
  refine r_get C w 0 5 6 (.int (I 6)) rfl rfl inX5 (by decide) tt_162 rfl dX5_kindAt_2 ?_
  obtain ⟨b, hbel⟩ : ∃ b, f_X5_isBelow a1 (I 6) = some b := by unfold f_X5_isBelow; split; exact ⟨_, rfl⟩; split <;> exact ⟨_, rfl⟩
  have w0 : WD G _ ([] ++ ([] ++ (w_PL G ad kad cad I R WI WA GI GA LI LA LJ nK nC KI KA CK CD))) s _ _ := w
  refine cl_i (wc' := []) w0 (run_S (As := [.int a1, .int (I 6)]) (rest := []) C w0 (c_X5_isBelow l G _ a1 (I 6) b hbel) mt_X5_isBelow tt_196 rfl rfl ⟨(Nat.le_of_ble_eq_true rfl), (Nat.le_of_ble_eq_true rfl)⟩ hl.1 (Nat.le_of_ble_eq_true rfl) dX5_kindAt_5 ⟨(Nat.le_of_ble_eq_true rfl), (Nat.le_of_ble_eq_true rfl)⟩) (fun H locs w => ?_)
  have w : WD G _ (w_PL G ad kad cad I R WI WA GI GA LI LA LJ nK nC KI KA CK CD) s H locs := w
  obtain ⟨f0, f1⟩ := fin b hbel
  refine lv_if_eq (tgt := 20) hx hb dX5_kindAt_8 (by decide) (fun c1 => ?_) (fun c1 => ?_)
  · refine lv_null hx hb dX5_kindAt_20 ?_
    exact ret_Q (r := none) C w (by rw [f0 c1]; rfl) rfl dX5_kindAt_21
  · obtain ⟨g1, g2, g3⟩ := f1 c1
    refine lv_aload_n hx hb dX5_kindAt_11 rfl (lv_at hl 0 rfl) ?_
    refine r_get C w 0 5 3 (.ref (ad 16)) rfl rfl inX5 (by decide) tt_159 rfl dX5_kindAt_12 ?_
    refine lv_iload_n hx hb dX5_kindAt_15 rfl (lv_at hl 1 rfl) ?_
    refine r_qald C w 16 3 (some (kad a1.toNatClampNeg 0)) rfl rfl (by unfold refs; rw [if_pos g2]) g3 dX5_kindAt_16 ?_
    refine lv_goto (tgt := 21) hx hb dX5_kindAt_17 (by decide) ?_
    exact ret_Q C w (by rw [g1]; rfl) rfl dX5_kindAt_21
set_option maxHeartbeats 4000000 in
set_option maxRecDepth 100000 in
theorem c_X5_caseAt (l : Launch) (G : GG) (ad : Nat → Nat) (kad cad : Nat → Nat → Nat) (I : Nat → Int32) (R : Nat → Int32) (WI : Nat → Int32) (WA : Nat → Nat → Int32) (GI : Nat → Int32) (GA : Nat → Nat → Int32) (LI : Nat → Int32) (LA : Nat → Nat → Int32) (LJ : Nat → Nat → Int64) (nK nC : Nat) (KI : Nat → Nat → Int32) (KA : Nat → Nat → Nat → Int32) (CK : Nat → Nat) (CD : Nat → Nat → Int32) (sz : Nat) (a1 : Int32) (hI : I 7 = nI nC) (hn : nC ≤ 16) : CtQ l yX5_caseAt cX5_caseAt 2 (some (.object "WallDesk$Case")) { frames := 1, cells := 0, slots := 0, locals := 21 } G [.ref (ad 0), .int a1] (w_PL G ad kad cad I R WI WA GI GA LI LA LJ nK nC KI KA CK CD) (w_PL G ad kad cad I R WI WA GI GA LI LA LJ nK nC KI KA CK CD) sz ((kIx nC a1).map (fun i => cad i 0)) := by
  refine ct_of (by decide) (Nat.le_of_ble_eq_true rfl) (fun p e s m below meth c ls C w hsz hl => ?_)
  have hx := C.1
  have hb := C.2.1
  have hl : lv_has ls 2 [(0, .ref (ad 0)), (1, .int a1)] := hl
  have fin : ∀ b : Int32, f_X5_isBelow a1 (I 7) = some b → (b = 0 → kIx nC a1 = none) ∧ (¬ b = 0 → kIx nC a1 = some a1.toNatClampNeg ∧ a1.toNatClampNeg < nC ∧ vp_in a1 16) := by
    intro b hbb
    unfold f_X5_isBelow at hbb
    rw [hI] at hbb
    by_cases c1 : a1 < 0
    · rw [if_pos c1] at hbb
      cases hbb
      exact ⟨fun _ => by unfold kIx; rw [if_neg (fun h => absurd h.1 (Int32.not_le.mpr c1))], fun h => absurd rfl h⟩
    · rw [if_neg c1] at hbb
      by_cases c2 : nI nC ≤ a1
      · rw [if_pos c2] at hbb
        cases hbb
        exact ⟨fun _ => by unfold kIx; rw [if_neg (fun h => absurd h.2 (Int32.not_lt.mpr c2))], fun h => absurd rfl h⟩
      · rw [if_neg c2] at hbb
        cases hbb
        have hk : kIx nC a1 = some a1.toNatClampNeg := by unfold kIx; rw [if_pos ⟨Int32.not_lt.mp c1, Int32.not_le.mp c2⟩]
        obtain ⟨hlt, he⟩ := kIx_lt (by omega) hk
        exact ⟨fun h => absurd h (by decide), fun _ => ⟨hk, hlt, by rw [he]; exact vp_in_nI (by omega) (by decide)⟩⟩
  refine lv_iload_n hx hb dX5_caseAt_0 rfl (lv_at hl 1 rfl) ?_
  refine lv_aload_n hx hb dX5_caseAt_1 rfl (lv_at hl 0 rfl) ?_
  refine r_get C w 0 5 7 (.int (I 7)) rfl rfl inX5 (by decide) tt_163 rfl dX5_caseAt_2 ?_
  obtain ⟨b, hbel⟩ : ∃ b, f_X5_isBelow a1 (I 7) = some b := by unfold f_X5_isBelow; split; exact ⟨_, rfl⟩; split <;> exact ⟨_, rfl⟩
  have w0 : WD G _ ([] ++ ([] ++ (w_PL G ad kad cad I R WI WA GI GA LI LA LJ nK nC KI KA CK CD))) s _ _ := w
  refine cl_i (wc' := []) w0 (run_S (As := [.int a1, .int (I 7)]) (rest := []) C w0 (c_X5_isBelow l G _ a1 (I 7) b hbel) mt_X5_isBelow tt_196 rfl rfl ⟨(Nat.le_of_ble_eq_true rfl), (Nat.le_of_ble_eq_true rfl)⟩ hl.1 (Nat.le_of_ble_eq_true rfl) dX5_caseAt_5 ⟨(Nat.le_of_ble_eq_true rfl), (Nat.le_of_ble_eq_true rfl)⟩) (fun H locs w => ?_)
  have w : WD G _ (w_PL G ad kad cad I R WI WA GI GA LI LA LJ nK nC KI KA CK CD) s H locs := w
  obtain ⟨f0, f1⟩ := fin b hbel
  refine lv_if_eq (tgt := 20) hx hb dX5_caseAt_8 (by decide) (fun c1 => ?_) (fun c1 => ?_)
  · refine lv_null hx hb dX5_caseAt_20 ?_
    exact ret_Q (r := none) C w (by rw [f0 c1]; rfl) rfl dX5_caseAt_21
  · obtain ⟨g1, g2, g3⟩ := f1 c1
    refine lv_aload_n hx hb dX5_caseAt_11 rfl (lv_at hl 0 rfl) ?_
    refine r_get C w 0 5 4 (.ref (ad 17)) rfl rfl inX5 (by decide) tt_160 rfl dX5_caseAt_12 ?_
    refine lv_iload_n hx hb dX5_caseAt_15 rfl (lv_at hl 1 rfl) ?_
    refine r_qald C w 17 4 (some (cad a1.toNatClampNeg 0)) rfl rfl (by unfold refs; rw [if_pos g2]) g3 dX5_caseAt_16 ?_
    refine lv_goto (tgt := 21) hx hb dX5_caseAt_17 (by decide) ?_
    exact ret_Q C w (by rw [g1]; rfl) rfl dX5_caseAt_21
def kFree (nK : Nat) (KI : Nat → Nat → Int32) (a : Int32) : Option Nat := (kIx nK a).bind (fun i => if KI i 6 = 0 then some i else none)
set_option maxHeartbeats 4000000 in
set_option maxRecDepth 100000 in
theorem c_X5_alterableKind (l : Launch) (G : GG) (ad : Nat → Nat) (kad cad : Nat → Nat → Nat) (I : Nat → Int32) (R : Nat → Int32) (WI : Nat → Int32) (WA : Nat → Nat → Int32) (GI : Nat → Int32) (GA : Nat → Nat → Int32) (LI : Nat → Int32) (LA : Nat → Nat → Int32) (LJ : Nat → Nat → Int64) (nK nC : Nat) (KI : Nat → Nat → Int32) (KA : Nat → Nat → Nat → Int32) (CK : Nat → Nat) (CD : Nat → Nat → Int32) (sz : Nat) (a1 : Int32) (hI : I 6 = nI nK) (hn : nK ≤ 4) : CtQ l yX5_alterableKind cX5_alterableKind 3 (some (.object "WallDesk$Kind")) { frames := 2, cells := 0, slots := 0, locals := 42 } G [.ref (ad 0), .int a1] (w_PL G ad kad cad I R WI WA GI GA LI LA LJ nK nC KI KA CK CD) (w_PL G ad kad cad I R WI WA GI GA LI LA LJ nK nC KI KA CK CD) sz ((kFree nK KI a1).map (fun i => kad i 0)) := by
  refine ct_of (by decide) (Nat.le_of_ble_eq_true rfl) (fun p e s m below meth c ls C w hsz hl => ?_)
  have hx := C.1
  have hb := C.2.1
  have hl : lv_has ls 3 [(0, .ref (ad 0)), (1, .int a1)] := hl
  refine lv_aload_n hx hb dX5_alterableKind_0 rfl (lv_at hl 0 rfl) ?_
  refine lv_iload_n hx hb dX5_alterableKind_1 rfl (lv_at hl 1 rfl) ?_
  have w0 := w.z
  refine cl_q (wc' := (w_PL G ad kad cad I R WI WA GI GA LI LA LJ nK nC KI KA CK CD)) w0 (run_V (As := [.int a1]) (rest := []) C w0 (c_X5_kindAt l G ad kad cad I R WI WA GI GA LI LA LJ nK nC KI KA CK CD _ a1 hI hn) mt_X5_kindAt tt_373 5 rfl rfl rfl rfl ⟨(Nat.le_of_ble_eq_true rfl), (Nat.le_of_ble_eq_true rfl)⟩ hl.1 (Nat.le_of_ble_eq_true rfl) dX5_alterableKind_2 ⟨(Nat.le_of_ble_eq_true rfl), (Nat.le_of_ble_eq_true rfl)⟩) (fun H locs w => ?_)
  have w := w.uz
  unfold kFree
  cases hq : kIx nK a1 with
  | none =>
    refine lv_astore_nN (lv' := [(2, .null), (0, .ref (ad 0)), (1, .int a1)]) hx hb dX5_alterableKind_5 rfl hl (by decide) rfl (fun ls hl => ?_)
    refine lv_aload_nN hx hb dX5_alterableKind_6 rfl (lv_at hl 0 rfl) ?_
    refine lv_ifnullN (tgt := 17) hx hb dX5_alterableKind_7 (by decide) ?_
    refine lv_null hx hb dX5_alterableKind_17 ?_
    refine lv_goto (tgt := 22) hx hb dX5_alterableKind_18 (by decide) ?_
    exact ret_Q (r := none) C w rfl rfl dX5_alterableKind_22
  | some i =>
    obtain ⟨hi, -⟩ := kIx_lt (by omega) hq
    refine lv_astore_n (x := kad i 0) (lv' := [(2, .ref (kad i 0)), (0, .ref (ad 0)), (1, .int a1)]) hx hb dX5_alterableKind_5 rfl hl (by decide) rfl (fun ls hl => ?_)
    refine lv_aload_n hx hb dX5_alterableKind_6 rfl (lv_at hl 0 rfl) ?_
    refine lv_ifnull hx hb dX5_alterableKind_7 ?_
    refine lv_aload_n hx hb dX5_alterableKind_10 rfl (lv_at hl 0 rfl) ?_
    have wk := w.perm (permK G ad kad cad I R WI WA GI GA LI LA LJ nK nC KI KA CK CD hi)
    refine r_getN C wk 1 2 6 (.int (KI i 6)) ge_XK_1 rfl inX2 (by decide) nn_349 rfl dX5_alterableKind_11 ?_
    refine lv_if_eq (tgt := 21) hx hb dX5_alterableKind_14 (by decide) (fun c1 => ?_) (fun c1 => ?_)
    · refine lv_aload_n hx hb dX5_alterableKind_21 rfl (lv_at hl 0 rfl) ?_
      exact ret_Q (r := some (kad i 0)) C w (by simp [c1]) rfl dX5_alterableKind_22
    · refine lv_null hx hb dX5_alterableKind_17 ?_
      refine lv_goto (tgt := 22) hx hb dX5_alterableKind_18 (by decide) ?_
      exact ret_Q (r := none) C w (by simp [c1]) rfl dX5_alterableKind_22
def f_X5_task (I : Nat → Int32) (R : Nat → Int32) (WI : Nat → Int32) (WA : Nat → Nat → Int32) (GI : Nat → Int32) (GA : Nat → Nat → Int32) (LI : Nat → Int32) (LA : Nat → Nat → Int32) (LJ : Nat → Nat → Int64) (nK nC : Nat) (KI : Nat → Nat → Int32) (KA : Nat → Nat → Nat → Int32) (CK : Nat → Nat) (CD : Nat → Nat → Int32) (a1 : Int32) (a2 : Int32) (a3 : Int32): Option (Int32 × (Nat → Int32) × (Nat → Nat → Int32) × (Nat → Nat → Nat → Int32)) := match kFree nK KI a1 with
  | none => some (-2, I, KI, KA)
  | some i => (f_X5_task_12 I (KI i) (KA i) a2 a3).bind (fun x => some (x.1, x.2.1, uN KI i x.2.2.1, uN KA i x.2.2.2))
set_option maxHeartbeats 4000000 in
set_option maxRecDepth 100000 in
theorem c_X5_task (l : Launch) (G : GG) (ad : Nat → Nat) (kad cad : Nat → Nat → Nat) (sz : Nat) (I : Nat → Int32) (R : Nat → Int32) (WI : Nat → Int32) (WA : Nat → Nat → Int32) (GI : Nat → Int32) (GA : Nat → Nat → Int32) (LI : Nat → Int32) (LA : Nat → Nat → Int32) (LJ : Nat → Nat → Int64) (nK nC : Nat) (KI : Nat → Nat → Int32) (KA : Nat → Nat → Nat → Int32) (CK : Nat → Nat) (CD : Nat → Nat → Int32) (a1 : Int32) (a2 : Int32) (a3 : Int32) (r : Int32) (I' : Nat → Int32) (KI' : Nat → Nat → Int32) (KA' : Nat → Nat → Nat → Int32) (hI : I 6 = nI nK) (hn : nK ≤ 4) (h : f_X5_task I R WI WA GI GA LI LA LJ nK nC KI KA CK CD a1 a2 a3 = some (r, I', KI', KA')) : CtI l yX5_task cX5_task 5 (some .int) { frames := 3, cells := 0, slots := 0, locals := 64 } G [.ref (ad 0), .int a1, .int a2, .int a3] (w_PL G ad kad cad I R WI WA GI GA LI LA LJ nK nC KI KA CK CD) (w_PL G ad kad cad I' R WI WA GI GA LI LA LJ nK nC KI' KA' CK CD) sz r := by
  refine ct_of (by decide) (Nat.le_of_ble_eq_true rfl) (fun p e s m below meth c ls C w hsz hl => ?_)
  have hx := C.1
  have hb := C.2.1
  have hl : lv_has ls 5 [(0, .ref (ad 0)), (1, .int a1), (2, .int a2), (3, .int a3)] := hl
  unfold f_X5_task at h
  refine lv_aload_n hx hb dX5_task_0 rfl (lv_at hl 0 rfl) ?_
  refine lv_iload_n hx hb dX5_task_1 rfl (lv_at hl 1 rfl) ?_
  have w0 := w.z
  refine cl_q (wc' := (w_PL G ad kad cad I R WI WA GI GA LI LA LJ nK nC KI KA CK CD)) w0 (run_V (As := [.int a1]) (rest := []) C w0 (c_X5_alterableKind l G ad kad cad I R WI WA GI GA LI LA LJ nK nC KI KA CK CD _ a1 hI hn) mt_X5_alterableKind tt_369 5 rfl rfl rfl rfl ⟨(Nat.le_of_ble_eq_true rfl), (Nat.le_of_ble_eq_true rfl)⟩ hl.1 (Nat.le_of_ble_eq_true rfl) dX5_task_2 ⟨(Nat.le_of_ble_eq_true rfl), (Nat.le_of_ble_eq_true rfl)⟩) (fun H locs w => ?_)
  have w := w.uz
  cases hq : kFree nK KI a1 with
  | none =>
    simp only [hq] at h
    refine lv_astoreN (lv' := [(4, .null), (0, .ref (ad 0)), (1, .int a1), (2, .int a2), (3, .int a3)]) hx hb dX5_task_5 hl (by decide) rfl (fun ls hl => ?_)
    refine lv_aloadN hx hb dX5_task_7 (lv_at hl 0 rfl) ?_
    refine lv_ifnullN (tgt := 33) hx hb dX5_task_9 (by decide) ?_
    refine lv_bipush (v := (-2)) hx hb dX5_task_33 (by decide) ?_
    cases h
    exact ret_I C w rfl rfl dX5_task_35
  | some i =>
    simp only [hq] at h
    have hi : i < nK := by
      unfold kFree at hq
      obtain ⟨z, hz, hq⟩ := Option.bind_eq_some_iff.mp hq
      split at hq
      · cases hq; exact (kIx_lt (by omega) hz).1
      · cases hq
    refine lv_astore (x := kad i 0) (lv' := [(4, .ref (kad i 0)), (0, .ref (ad 0)), (1, .int a1), (2, .int a2), (3, .int a3)]) hx hb dX5_task_5 hl (by decide) rfl (fun ls hl => ?_)
    refine lv_aload hx hb dX5_task_7 (lv_at hl 0 rfl) ?_
    refine lv_ifnull hx hb dX5_task_9 ?_
    have wk := w.perm (permK G ad kad cad I R WI WA GI GA LI LA LJ nK nC KI KA CK CD hi)
    obtain ⟨x, hxx, h⟩ := bdS h
    cases h
    exact W.mono (w_X5_task_12 C I (KI i) (KA i) a2 a3 hxx _ _ wk _ (lv_sub hl [3, 4, 0] rfl)) (EnI.perm (by have h9 := permK G ad kad cad x.2.1 R WI WA GI GA LI LA LJ nK nC (uN KI i x.2.2.1) (uN KA i x.2.2.2) CK CD hi; rw [uN_s, uN_s, tlK_eq] at h9; exact h9.symm))
def f_X5_apart (I : Nat → Int32) (R : Nat → Int32) (WI : Nat → Int32) (WA : Nat → Nat → Int32) (GI : Nat → Int32) (GA : Nat → Nat → Int32) (LI : Nat → Int32) (LA : Nat → Nat → Int32) (LJ : Nat → Nat → Int64) (nK nC : Nat) (KI : Nat → Nat → Int32) (KA : Nat → Nat → Nat → Int32) (CK : Nat → Nat) (CD : Nat → Nat → Int32) (a1 : Int32) (a2 : Int32) (a3 : Int32): Option (Int32 × (Nat → Int32) × (Nat → Nat → Int32) × (Nat → Nat → Nat → Int32)) := match kFree nK KI a1 with
  | none => some (-2, I, KI, KA)
  | some i => (f_X5_apart_12 I (KI i) (KA i) a2 a3).bind (fun x => some (x.1, x.2.1, uN KI i x.2.2.1, uN KA i x.2.2.2))
set_option maxHeartbeats 4000000 in
set_option maxRecDepth 100000 in
theorem c_X5_apart (l : Launch) (G : GG) (ad : Nat → Nat) (kad cad : Nat → Nat → Nat) (sz : Nat) (I : Nat → Int32) (R : Nat → Int32) (WI : Nat → Int32) (WA : Nat → Nat → Int32) (GI : Nat → Int32) (GA : Nat → Nat → Int32) (LI : Nat → Int32) (LA : Nat → Nat → Int32) (LJ : Nat → Nat → Int64) (nK nC : Nat) (KI : Nat → Nat → Int32) (KA : Nat → Nat → Nat → Int32) (CK : Nat → Nat) (CD : Nat → Nat → Int32) (a1 : Int32) (a2 : Int32) (a3 : Int32) (r : Int32) (I' : Nat → Int32) (KI' : Nat → Nat → Int32) (KA' : Nat → Nat → Nat → Int32) (hI : I 6 = nI nK) (hn : nK ≤ 4) (h : f_X5_apart I R WI WA GI GA LI LA LJ nK nC KI KA CK CD a1 a2 a3 = some (r, I', KI', KA')) : CtI l yX5_apart cX5_apart 5 (some .int) { frames := 3, cells := 0, slots := 0, locals := 64 } G [.ref (ad 0), .int a1, .int a2, .int a3] (w_PL G ad kad cad I R WI WA GI GA LI LA LJ nK nC KI KA CK CD) (w_PL G ad kad cad I' R WI WA GI GA LI LA LJ nK nC KI' KA' CK CD) sz r := by
  refine ct_of (by decide) (Nat.le_of_ble_eq_true rfl) (fun p e s m below meth c ls C w hsz hl => ?_)
  have hx := C.1
  have hb := C.2.1
  have hl : lv_has ls 5 [(0, .ref (ad 0)), (1, .int a1), (2, .int a2), (3, .int a3)] := hl
  unfold f_X5_apart at h
  refine lv_aload_n hx hb dX5_apart_0 rfl (lv_at hl 0 rfl) ?_
  refine lv_iload_n hx hb dX5_apart_1 rfl (lv_at hl 1 rfl) ?_
  have w0 := w.z
  refine cl_q (wc' := (w_PL G ad kad cad I R WI WA GI GA LI LA LJ nK nC KI KA CK CD)) w0 (run_V (As := [.int a1]) (rest := []) C w0 (c_X5_alterableKind l G ad kad cad I R WI WA GI GA LI LA LJ nK nC KI KA CK CD _ a1 hI hn) mt_X5_alterableKind tt_369 5 rfl rfl rfl rfl ⟨(Nat.le_of_ble_eq_true rfl), (Nat.le_of_ble_eq_true rfl)⟩ hl.1 (Nat.le_of_ble_eq_true rfl) dX5_apart_2 ⟨(Nat.le_of_ble_eq_true rfl), (Nat.le_of_ble_eq_true rfl)⟩) (fun H locs w => ?_)
  have w := w.uz
  cases hq : kFree nK KI a1 with
  | none =>
    simp only [hq] at h
    refine lv_astoreN (lv' := [(4, .null), (0, .ref (ad 0)), (1, .int a1), (2, .int a2), (3, .int a3)]) hx hb dX5_apart_5 hl (by decide) rfl (fun ls hl => ?_)
    refine lv_aloadN hx hb dX5_apart_7 (lv_at hl 0 rfl) ?_
    refine lv_ifnullN (tgt := 22) hx hb dX5_apart_9 (by decide) ?_
    refine lv_bipush (v := (-2)) hx hb dX5_apart_22 (by decide) ?_
    cases h
    exact ret_I C w rfl rfl dX5_apart_24
  | some i =>
    simp only [hq] at h
    have hi : i < nK := by
      unfold kFree at hq
      obtain ⟨z, hz, hq⟩ := Option.bind_eq_some_iff.mp hq
      split at hq
      · cases hq; exact (kIx_lt (by omega) hz).1
      · cases hq
    refine lv_astore (x := kad i 0) (lv' := [(4, .ref (kad i 0)), (0, .ref (ad 0)), (1, .int a1), (2, .int a2), (3, .int a3)]) hx hb dX5_apart_5 hl (by decide) rfl (fun ls hl => ?_)
    refine lv_aload hx hb dX5_apart_7 (lv_at hl 0 rfl) ?_
    refine lv_ifnull hx hb dX5_apart_9 ?_
    have wk := w.perm (permK G ad kad cad I R WI WA GI GA LI LA LJ nK nC KI KA CK CD hi)
    obtain ⟨x, hxx, h⟩ := bdS h
    cases h
    exact W.mono (w_X5_apart_12 C I (KI i) (KA i) a2 a3 hxx _ _ wk _ (lv_sub hl [3, 4, 0] rfl)) (EnI.perm (by have h9 := permK G ad kad cad x.2.1 R WI WA GI GA LI LA LJ nK nC (uN KI i x.2.2.1) (uN KA i x.2.2.2) CK CD hi; rw [uN_s, uN_s, tlK_eq] at h9; exact h9.symm))
def f_X5_bound (I : Nat → Int32) (R : Nat → Int32) (WI : Nat → Int32) (WA : Nat → Nat → Int32) (GI : Nat → Int32) (GA : Nat → Nat → Int32) (LI : Nat → Int32) (LA : Nat → Nat → Int32) (LJ : Nat → Nat → Int64) (nK nC : Nat) (KI : Nat → Nat → Int32) (KA : Nat → Nat → Nat → Int32) (CK : Nat → Nat) (CD : Nat → Nat → Int32) (a1 : Int32) (a2 : Int32) (a3 : Int32): Option (Int32 × (Nat → Int32) × (Nat → Nat → Int32) × (Nat → Nat → Nat → Int32)) := match kFree nK KI a1 with
  | none => some (-2, I, KI, KA)
  | some i => (f_X5_bound_12 I (KI i) (KA i) a2 a3).bind (fun x => some (x.1, x.2.1, uN KI i x.2.2.1, uN KA i x.2.2.2))
set_option maxHeartbeats 4000000 in
set_option maxRecDepth 100000 in
theorem c_X5_bound (l : Launch) (G : GG) (ad : Nat → Nat) (kad cad : Nat → Nat → Nat) (sz : Nat) (I : Nat → Int32) (R : Nat → Int32) (WI : Nat → Int32) (WA : Nat → Nat → Int32) (GI : Nat → Int32) (GA : Nat → Nat → Int32) (LI : Nat → Int32) (LA : Nat → Nat → Int32) (LJ : Nat → Nat → Int64) (nK nC : Nat) (KI : Nat → Nat → Int32) (KA : Nat → Nat → Nat → Int32) (CK : Nat → Nat) (CD : Nat → Nat → Int32) (a1 : Int32) (a2 : Int32) (a3 : Int32) (r : Int32) (I' : Nat → Int32) (KI' : Nat → Nat → Int32) (KA' : Nat → Nat → Nat → Int32) (hI : I 6 = nI nK) (hn : nK ≤ 4) (h : f_X5_bound I R WI WA GI GA LI LA LJ nK nC KI KA CK CD a1 a2 a3 = some (r, I', KI', KA')) : CtI l yX5_bound cX5_bound 5 (some .int) { frames := 3, cells := 0, slots := 0, locals := 64 } G [.ref (ad 0), .int a1, .int a2, .int a3] (w_PL G ad kad cad I R WI WA GI GA LI LA LJ nK nC KI KA CK CD) (w_PL G ad kad cad I' R WI WA GI GA LI LA LJ nK nC KI' KA' CK CD) sz r := by
  refine ct_of (by decide) (Nat.le_of_ble_eq_true rfl) (fun p e s m below meth c ls C w hsz hl => ?_)
  have hx := C.1
  have hb := C.2.1
  have hl : lv_has ls 5 [(0, .ref (ad 0)), (1, .int a1), (2, .int a2), (3, .int a3)] := hl
  unfold f_X5_bound at h
  refine lv_aload_n hx hb dX5_bound_0 rfl (lv_at hl 0 rfl) ?_
  refine lv_iload_n hx hb dX5_bound_1 rfl (lv_at hl 1 rfl) ?_
  have w0 := w.z
  refine cl_q (wc' := (w_PL G ad kad cad I R WI WA GI GA LI LA LJ nK nC KI KA CK CD)) w0 (run_V (As := [.int a1]) (rest := []) C w0 (c_X5_alterableKind l G ad kad cad I R WI WA GI GA LI LA LJ nK nC KI KA CK CD _ a1 hI hn) mt_X5_alterableKind tt_369 5 rfl rfl rfl rfl ⟨(Nat.le_of_ble_eq_true rfl), (Nat.le_of_ble_eq_true rfl)⟩ hl.1 (Nat.le_of_ble_eq_true rfl) dX5_bound_2 ⟨(Nat.le_of_ble_eq_true rfl), (Nat.le_of_ble_eq_true rfl)⟩) (fun H locs w => ?_)
  have w := w.uz
  cases hq : kFree nK KI a1 with
  | none =>
    simp only [hq] at h
    refine lv_astoreN (lv' := [(4, .null), (0, .ref (ad 0)), (1, .int a1), (2, .int a2), (3, .int a3)]) hx hb dX5_bound_5 hl (by decide) rfl (fun ls hl => ?_)
    refine lv_aloadN hx hb dX5_bound_7 (lv_at hl 0 rfl) ?_
    refine lv_ifnullN (tgt := 22) hx hb dX5_bound_9 (by decide) ?_
    refine lv_bipush (v := (-2)) hx hb dX5_bound_22 (by decide) ?_
    cases h
    exact ret_I C w rfl rfl dX5_bound_24
  | some i =>
    simp only [hq] at h
    have hi : i < nK := by
      unfold kFree at hq
      obtain ⟨z, hz, hq⟩ := Option.bind_eq_some_iff.mp hq
      split at hq
      · cases hq; exact (kIx_lt (by omega) hz).1
      · cases hq
    refine lv_astore (x := kad i 0) (lv' := [(4, .ref (kad i 0)), (0, .ref (ad 0)), (1, .int a1), (2, .int a2), (3, .int a3)]) hx hb dX5_bound_5 hl (by decide) rfl (fun ls hl => ?_)
    refine lv_aload hx hb dX5_bound_7 (lv_at hl 0 rfl) ?_
    refine lv_ifnull hx hb dX5_bound_9 ?_
    have wk := w.perm (permK G ad kad cad I R WI WA GI GA LI LA LJ nK nC KI KA CK CD hi)
    obtain ⟨x, hxx, h⟩ := bdS h
    cases h
    exact W.mono (w_X5_bound_12 C I (KI i) (KA i) a2 a3 hxx _ _ wk _ (lv_sub hl [3, 4, 0] rfl)) (EnI.perm (by have h9 := permK G ad kad cad x.2.1 R WI WA GI GA LI LA LJ nK nC (uN KI i x.2.2.1) (uN KA i x.2.2.2) CK CD hi; rw [uN_s, uN_s, tlK_eq] at h9; exact h9.symm))
def f_X5_most (I : Nat → Int32) (R : Nat → Int32) (WI : Nat → Int32) (WA : Nat → Nat → Int32) (GI : Nat → Int32) (GA : Nat → Nat → Int32) (LI : Nat → Int32) (LA : Nat → Nat → Int32) (LJ : Nat → Nat → Int64) (nK nC : Nat) (KI : Nat → Nat → Int32) (KA : Nat → Nat → Nat → Int32) (CK : Nat → Nat) (CD : Nat → Nat → Int32) (a1 : Int32) (a2 : Int32): Option (Int32 × (Nat → Int32) × (Nat → Nat → Int32) × (Nat → Nat → Nat → Int32)) := match kFree nK KI a1 with
  | none => some (-2, I, KI, KA)
  | some i => (f_X5_most_10 I (KI i) (KA i) a2).bind (fun x => some (x.1, x.2.1, uN KI i x.2.2.1, uN KA i x.2.2.2))
set_option maxHeartbeats 4000000 in
set_option maxRecDepth 100000 in
theorem c_X5_most (l : Launch) (G : GG) (ad : Nat → Nat) (kad cad : Nat → Nat → Nat) (sz : Nat) (I : Nat → Int32) (R : Nat → Int32) (WI : Nat → Int32) (WA : Nat → Nat → Int32) (GI : Nat → Int32) (GA : Nat → Nat → Int32) (LI : Nat → Int32) (LA : Nat → Nat → Int32) (LJ : Nat → Nat → Int64) (nK nC : Nat) (KI : Nat → Nat → Int32) (KA : Nat → Nat → Nat → Int32) (CK : Nat → Nat) (CD : Nat → Nat → Int32) (a1 : Int32) (a2 : Int32) (r : Int32) (I' : Nat → Int32) (KI' : Nat → Nat → Int32) (KA' : Nat → Nat → Nat → Int32) (hI : I 6 = nI nK) (hn : nK ≤ 4) (h : f_X5_most I R WI WA GI GA LI LA LJ nK nC KI KA CK CD a1 a2 = some (r, I', KI', KA')) : CtI l yX5_most cX5_most 5 (some .int) { frames := 3, cells := 0, slots := 0, locals := 64 } G [.ref (ad 0), .int a1, .int a2] (w_PL G ad kad cad I R WI WA GI GA LI LA LJ nK nC KI KA CK CD) (w_PL G ad kad cad I' R WI WA GI GA LI LA LJ nK nC KI' KA' CK CD) sz r := by
  refine ct_of (by decide) (Nat.le_of_ble_eq_true rfl) (fun p e s m below meth c ls C w hsz hl => ?_)
  have hx := C.1
  have hb := C.2.1
  have hl : lv_has ls 5 [(0, .ref (ad 0)), (1, .int a1), (2, .int a2)] := hl
  unfold f_X5_most at h
  refine lv_aload_n hx hb dX5_most_0 rfl (lv_at hl 0 rfl) ?_
  refine lv_iload_n hx hb dX5_most_1 rfl (lv_at hl 1 rfl) ?_
  have w0 := w.z
  refine cl_q (wc' := (w_PL G ad kad cad I R WI WA GI GA LI LA LJ nK nC KI KA CK CD)) w0 (run_V (As := [.int a1]) (rest := []) C w0 (c_X5_alterableKind l G ad kad cad I R WI WA GI GA LI LA LJ nK nC KI KA CK CD _ a1 hI hn) mt_X5_alterableKind tt_369 5 rfl rfl rfl rfl ⟨(Nat.le_of_ble_eq_true rfl), (Nat.le_of_ble_eq_true rfl)⟩ hl.1 (Nat.le_of_ble_eq_true rfl) dX5_most_2 ⟨(Nat.le_of_ble_eq_true rfl), (Nat.le_of_ble_eq_true rfl)⟩) (fun H locs w => ?_)
  have w := w.uz
  cases hq : kFree nK KI a1 with
  | none =>
    simp only [hq] at h
    refine lv_astore_nN (lv' := [(3, .null), (0, .ref (ad 0)), (1, .int a1), (2, .int a2)]) hx hb dX5_most_5 rfl hl (by decide) rfl (fun ls hl => ?_)
    refine lv_aload_nN hx hb dX5_most_6 rfl (lv_at hl 0 rfl) ?_
    refine lv_ifnullN (tgt := 21) hx hb dX5_most_7 (by decide) ?_
    refine lv_bipush (v := (-2)) hx hb dX5_most_21 (by decide) ?_
    cases h
    exact ret_I C w rfl rfl dX5_most_23
  | some i =>
    simp only [hq] at h
    have hi : i < nK := by
      unfold kFree at hq
      obtain ⟨z, hz, hq⟩ := Option.bind_eq_some_iff.mp hq
      split at hq
      · cases hq; exact (kIx_lt (by omega) hz).1
      · cases hq
    refine lv_astore_n (x := kad i 0) (lv' := [(3, .ref (kad i 0)), (0, .ref (ad 0)), (1, .int a1), (2, .int a2)]) hx hb dX5_most_5 rfl hl (by decide) rfl (fun ls hl => ?_)
    refine lv_aload_n hx hb dX5_most_6 rfl (lv_at hl 0 rfl) ?_
    refine lv_ifnull hx hb dX5_most_7 ?_
    have wk := w.perm (permK G ad kad cad I R WI WA GI GA LI LA LJ nK nC KI KA CK CD hi)
    obtain ⟨x, hxx, h⟩ := bdS h
    cases h
    exact W.mono (w_X5_most_10 C I (KI i) (KA i) a2 hxx _ _ wk _ (lv_sub hl [3, 0] rfl)) (EnI.perm (by have h9 := permK G ad kad cad x.2.1 R WI WA GI GA LI LA LJ nK nC (uN KI i x.2.2.1) (uN KA i x.2.2.2) CK CD hi; rw [uN_s, uN_s, tlK_eq] at h9; exact h9.symm))
def f_X5_perform (N : Nat) (I : Nat → Int32) (R : Nat → Int32) (WI : Nat → Int32) (WA : Nat → Nat → Int32) (GI : Nat → Int32) (GA : Nat → Nat → Int32) (LI : Nat → Int32) (LA : Nat → Nat → Int32) (LJ : Nat → Nat → Int64) (nK nC : Nat) (KI : Nat → Nat → Int32) (KA : Nat → Nat → Nat → Int32) (CK : Nat → Nat) (CD : Nat → Nat → Int32) (a1 : Int32) (a2 : Int32) (a3 : Int32): Option (Int32 × (Nat → Int32) × (Nat → Nat → Int32) × (Nat → Nat → Nat → Int32) × (Nat → Nat → Int32) × (Nat → Int32) × (Nat → Int32) × (Nat → Nat → Int32) × (Nat → Nat → Int64)) := match kIx nC a2 with
  | none => some (-2, I, KI, KA, CD, R, LI, LA, LJ)
  | some j => (f_X5_perform_12 N I (CD j) (KI (CK j)) (KA (CK j)) R LI LA LJ a1 a2 a3).bind (fun x => some (x.1, x.2.1, uN KI (CK j) x.2.2.2.1, uN KA (CK j) x.2.2.2.2.1, uN CD j x.2.2.1, x.2.2.2.2.2.1, x.2.2.2.2.2.2.1, x.2.2.2.2.2.2.2.1, x.2.2.2.2.2.2.2.2))
set_option maxHeartbeats 4000000 in
set_option maxRecDepth 100000 in
theorem c_X5_perform (l : Launch) (G : GG) (ad : Nat → Nat) (kad cad : Nat → Nat → Nat) (sz : Nat) (N : Nat) (I : Nat → Int32) (R : Nat → Int32) (WI : Nat → Int32) (WA : Nat → Nat → Int32) (GI : Nat → Int32) (GA : Nat → Nat → Int32) (LI : Nat → Int32) (LA : Nat → Nat → Int32) (LJ : Nat → Nat → Int64) (nK nC : Nat) (KI : Nat → Nat → Int32) (KA : Nat → Nat → Nat → Int32) (CK : Nat → Nat) (CD : Nat → Nat → Int32) (a1 : Int32) (a2 : Int32) (a3 : Int32) (r : Int32) (I' : Nat → Int32) (KI' : Nat → Nat → Int32) (KA' : Nat → Nat → Nat → Int32) (CD' : Nat → Nat → Int32) (R' : Nat → Int32) (LI' : Nat → Int32) (LA' : Nat → Nat → Int32) (LJ' : Nat → Nat → Int64) (hI : I 7 = nI nC) (hn : nC ≤ 16) (hCK : ∀ j, j < nC → CK j < nK) (h : f_X5_perform N I R WI WA GI GA LI LA LJ nK nC KI KA CK CD a1 a2 a3 = some (r, I', KI', KA', CD', R', LI', LA', LJ')) : CtI l yX5_perform cX5_perform 6 (some .int) { frames := 6, cells := 0, slots := 0, locals := 146 } G [.ref (ad 0), .int a1, .int a2, .int a3] (w_PL G ad kad cad I R WI WA GI GA LI LA LJ nK nC KI KA CK CD) (w_PL G ad kad cad I' R' WI WA GI GA LI' LA' LJ' nK nC KI' KA' CK CD') sz r := by
  refine ct_of (by decide) (Nat.le_of_ble_eq_true rfl) (fun p e s m below meth c ls C w hsz hl => ?_)
  have hx := C.1
  have hb := C.2.1
  have hl : lv_has ls 6 [(0, .ref (ad 0)), (1, .int a1), (2, .int a2), (3, .int a3)] := hl
  unfold f_X5_perform at h
  refine lv_aload_n hx hb dX5_perform_0 rfl (lv_at hl 0 rfl) ?_
  refine lv_iload_n hx hb dX5_perform_1 rfl (lv_at hl 2 rfl) ?_
  have w0 := w.z
  refine cl_q (wc' := (w_PL G ad kad cad I R WI WA GI GA LI LA LJ nK nC KI KA CK CD)) w0 (run_V (As := [.int a2]) (rest := []) C w0 (c_X5_caseAt l G ad kad cad I R WI WA GI GA LI LA LJ nK nC KI KA CK CD _ a2 hI hn) mt_X5_caseAt tt_431 5 rfl rfl rfl rfl ⟨(Nat.le_of_ble_eq_true rfl), (Nat.le_of_ble_eq_true rfl)⟩ hl.1 (Nat.le_of_ble_eq_true rfl) dX5_perform_2 ⟨(Nat.le_of_ble_eq_true rfl), (Nat.le_of_ble_eq_true rfl)⟩) (fun H locs w => ?_)
  have w := w.uz
  cases hq : kIx nC a2 with
  | none =>
    simp only [hq] at h
    refine lv_astoreN (lv' := [(4, .null), (0, .ref (ad 0)), (1, .int a1), (2, .int a2), (3, .int a3)]) hx hb dX5_perform_5 hl (by decide) rfl (fun ls hl => ?_)
    refine lv_aloadN hx hb dX5_perform_7 (lv_at hl 0 rfl) ?_
    refine lv_ifnullN (tgt := 31) hx hb dX5_perform_9 (by decide) ?_
    refine lv_bipush (v := (-2)) hx hb dX5_perform_31 (by decide) ?_
    cases h
    exact ret_I C w rfl rfl dX5_perform_33
  | some j =>
    simp only [hq] at h
    obtain ⟨hj, -⟩ := kIx_lt (by omega) hq
    have hi := hCK j hj
    refine lv_astore (x := cad j 0) (lv' := [(4, .ref (cad j 0)), (0, .ref (ad 0)), (1, .int a1), (2, .int a2), (3, .int a3)]) hx hb dX5_perform_5 hl (by decide) rfl (fun ls hl => ?_)
    refine lv_aload hx hb dX5_perform_7 (lv_at hl 0 rfl) ?_
    refine lv_ifnull hx hb dX5_perform_9 ?_
    have wk := w.perm (permC G ad kad cad I R WI WA GI GA LI LA LJ nK nC KI KA CK CD hj rfl hi)
    obtain ⟨x, hxx, h⟩ := bdS h
    cases h
    exact W.mono (w_X5_perform_12 C N I (CD j) (KI (CK j)) (KA (CK j)) R LI LA LJ a1 a2 a3 hxx _ _ wk _ (lv_sub hl [1, 2, 3, 4, 0] rfl)) (EnI.perm (by have h9 := permC G ad kad cad x.2.1 x.2.2.2.2.2.1 WI WA GI GA x.2.2.2.2.2.2.1 x.2.2.2.2.2.2.2.1 x.2.2.2.2.2.2.2.2 nK nC (uN KI (CK j) x.2.2.2.1) (uN KA (CK j) x.2.2.2.2.1) CK (uN CD j x.2.2.1) hj rfl hi; rw [uN_s, uN_s, uN_s, tlC_eq G ad kad cad I R WI WA GI GA LI LA LJ nK nC KI KA CK CD] at h9; exact h9.symm))
def f_X5_canEnd (N : Nat) (I : Nat → Int32) (R : Nat → Int32) (WI : Nat → Int32) (WA : Nat → Nat → Int32) (GI : Nat → Int32) (GA : Nat → Nat → Int32) (LI : Nat → Int32) (LA : Nat → Nat → Int32) (LJ : Nat → Nat → Int64) (nK nC : Nat) (KI : Nat → Nat → Int32) (KA : Nat → Nat → Nat → Int32) (CK : Nat → Nat) (CD : Nat → Nat → Int32) (a1 : Int32): Option (Int32) := match kIx nC a1 with
  | none => some (-2)
  | some j => f_X5_canEnd_13 N I (CD j) (KI (CK j)) (KA (CK j)) R LI LA LJ
set_option maxHeartbeats 4000000 in
set_option maxRecDepth 100000 in
theorem c_X5_canEnd (l : Launch) (G : GG) (ad : Nat → Nat) (kad cad : Nat → Nat → Nat) (sz : Nat) (N : Nat) (I : Nat → Int32) (R : Nat → Int32) (WI : Nat → Int32) (WA : Nat → Nat → Int32) (GI : Nat → Int32) (GA : Nat → Nat → Int32) (LI : Nat → Int32) (LA : Nat → Nat → Int32) (LJ : Nat → Nat → Int64) (nK nC : Nat) (KI : Nat → Nat → Int32) (KA : Nat → Nat → Nat → Int32) (CK : Nat → Nat) (CD : Nat → Nat → Int32) (a1 : Int32) (r : Int32) (hI : I 7 = nI nC) (hn : nC ≤ 16) (hCK : ∀ j, j < nC → CK j < nK) (h : f_X5_canEnd N I R WI WA GI GA LI LA LJ nK nC KI KA CK CD a1 = some r) : CtI l yX5_canEnd cX5_canEnd 3 (some .int) { frames := 4, cells := 0, slots := 0, locals := 97 } G [.ref (ad 0), .int a1] (w_PL G ad kad cad I R WI WA GI GA LI LA LJ nK nC KI KA CK CD) (w_PL G ad kad cad I R WI WA GI GA LI LA LJ nK nC KI KA CK CD) sz r := by
  refine ct_of (by decide) (Nat.le_of_ble_eq_true rfl) (fun p e s m below meth c ls C w hsz hl => ?_)
  have hx := C.1
  have hb := C.2.1
  have hl : lv_has ls 3 [(0, .ref (ad 0)), (1, .int a1)] := hl
  unfold f_X5_canEnd at h
  refine lv_aload_n hx hb dX5_canEnd_0 rfl (lv_at hl 0 rfl) ?_
  refine lv_iload_n hx hb dX5_canEnd_1 rfl (lv_at hl 1 rfl) ?_
  have w0 := w.z
  refine cl_q (wc' := (w_PL G ad kad cad I R WI WA GI GA LI LA LJ nK nC KI KA CK CD)) w0 (run_V (As := [.int a1]) (rest := []) C w0 (c_X5_caseAt l G ad kad cad I R WI WA GI GA LI LA LJ nK nC KI KA CK CD _ a1 hI hn) mt_X5_caseAt tt_431 5 rfl rfl rfl rfl ⟨(Nat.le_of_ble_eq_true rfl), (Nat.le_of_ble_eq_true rfl)⟩ hl.1 (Nat.le_of_ble_eq_true rfl) dX5_canEnd_2 ⟨(Nat.le_of_ble_eq_true rfl), (Nat.le_of_ble_eq_true rfl)⟩) (fun H locs w => ?_)
  have w := w.uz
  cases hq : kIx nC a1 with
  | none =>
    simp only [hq] at h
    refine lv_astore_nN (lv' := [(2, .null), (0, .ref (ad 0)), (1, .int a1)]) hx hb dX5_canEnd_5 rfl hl (by decide) rfl (fun ls hl => ?_)
    refine lv_aload_nN hx hb dX5_canEnd_6 rfl (lv_at hl 0 rfl) ?_
    refine lv_ifnonnullN hx hb dX5_canEnd_7 ?_
    refine lv_bipush (v := (-2)) hx hb dX5_canEnd_10 (by decide) ?_
    cases h
    exact ret_I C w rfl rfl dX5_canEnd_12
  | some j =>
    simp only [hq] at h
    obtain ⟨hj, -⟩ := kIx_lt (by omega) hq
    have hi := hCK j hj
    refine lv_astore_n (x := cad j 0) (lv' := [(2, .ref (cad j 0)), (0, .ref (ad 0)), (1, .int a1)]) hx hb dX5_canEnd_5 rfl hl (by decide) rfl (fun ls hl => ?_)
    refine lv_aload_n hx hb dX5_canEnd_6 rfl (lv_at hl 0 rfl) ?_
    refine lv_ifnonnull (tgt := 13) hx hb dX5_canEnd_7 (by decide) ?_
    have wk := w.perm (permC G ad kad cad I R WI WA GI GA LI LA LJ nK nC KI KA CK CD hj rfl hi)
    exact W.mono (w_X5_canEnd_13 C N  h _ _ wk _ (lv_sub hl [1, 0] rfl)) (EnI.perm (permC G ad kad cad I R WI WA GI GA LI LA LJ nK nC KI KA CK CD hj rfl hi).symm)
def f_X5_doer (I : Nat → Int32) (R : Nat → Int32) (WI : Nat → Int32) (WA : Nat → Nat → Int32) (GI : Nat → Int32) (GA : Nat → Nat → Int32) (LI : Nat → Int32) (LA : Nat → Nat → Int32) (LJ : Nat → Nat → Int64) (nK nC : Nat) (KI : Nat → Nat → Int32) (KA : Nat → Nat → Nat → Int32) (CK : Nat → Nat) (CD : Nat → Nat → Int32) (a1 : Int32) (a2 : Int32): Option (Int32) := match kIx nC a2 with
  | none => some (-2)
  | some j => f_X5_doer_10 I (CD j) (KI (CK j)) (KA (CK j)) R LI LA LJ a1
set_option maxHeartbeats 4000000 in
set_option maxRecDepth 100000 in
theorem c_X5_doer (l : Launch) (G : GG) (ad : Nat → Nat) (kad cad : Nat → Nat → Nat) (sz : Nat) (I : Nat → Int32) (R : Nat → Int32) (WI : Nat → Int32) (WA : Nat → Nat → Int32) (GI : Nat → Int32) (GA : Nat → Nat → Int32) (LI : Nat → Int32) (LA : Nat → Nat → Int32) (LJ : Nat → Nat → Int64) (nK nC : Nat) (KI : Nat → Nat → Int32) (KA : Nat → Nat → Nat → Int32) (CK : Nat → Nat) (CD : Nat → Nat → Int32) (a1 : Int32) (a2 : Int32) (r : Int32) (hI : I 7 = nI nC) (hn : nC ≤ 16) (hCK : ∀ j, j < nC → CK j < nK) (h : f_X5_doer I R WI WA GI GA LI LA LJ nK nC KI KA CK CD a1 a2 = some r) : CtI l yX5_doer cX5_doer 4 (some .int) { frames := 2, cells := 0, slots := 0, locals := 42 } G [.ref (ad 0), .int a1, .int a2] (w_PL G ad kad cad I R WI WA GI GA LI LA LJ nK nC KI KA CK CD) (w_PL G ad kad cad I R WI WA GI GA LI LA LJ nK nC KI KA CK CD) sz r := by
  refine ct_of (by decide) (Nat.le_of_ble_eq_true rfl) (fun p e s m below meth c ls C w hsz hl => ?_)
  have hx := C.1
  have hb := C.2.1
  have hl : lv_has ls 4 [(0, .ref (ad 0)), (1, .int a1), (2, .int a2)] := hl
  unfold f_X5_doer at h
  refine lv_aload_n hx hb dX5_doer_0 rfl (lv_at hl 0 rfl) ?_
  refine lv_iload_n hx hb dX5_doer_1 rfl (lv_at hl 2 rfl) ?_
  have w0 := w.z
  refine cl_q (wc' := (w_PL G ad kad cad I R WI WA GI GA LI LA LJ nK nC KI KA CK CD)) w0 (run_V (As := [.int a2]) (rest := []) C w0 (c_X5_caseAt l G ad kad cad I R WI WA GI GA LI LA LJ nK nC KI KA CK CD _ a2 hI hn) mt_X5_caseAt tt_431 5 rfl rfl rfl rfl ⟨(Nat.le_of_ble_eq_true rfl), (Nat.le_of_ble_eq_true rfl)⟩ hl.1 (Nat.le_of_ble_eq_true rfl) dX5_doer_2 ⟨(Nat.le_of_ble_eq_true rfl), (Nat.le_of_ble_eq_true rfl)⟩) (fun H locs w => ?_)
  have w := w.uz
  cases hq : kIx nC a2 with
  | none =>
    simp only [hq] at h
    refine lv_astore_nN (lv' := [(3, .null), (0, .ref (ad 0)), (1, .int a1), (2, .int a2)]) hx hb dX5_doer_5 rfl hl (by decide) rfl (fun ls hl => ?_)
    refine lv_aload_nN hx hb dX5_doer_6 rfl (lv_at hl 0 rfl) ?_
    refine lv_ifnullN (tgt := 21) hx hb dX5_doer_7 (by decide) ?_
    refine lv_bipush (v := (-2)) hx hb dX5_doer_21 (by decide) ?_
    cases h
    exact ret_I C w rfl rfl dX5_doer_23
  | some j =>
    simp only [hq] at h
    obtain ⟨hj, -⟩ := kIx_lt (by omega) hq
    have hi := hCK j hj
    refine lv_astore_n (x := cad j 0) (lv' := [(3, .ref (cad j 0)), (0, .ref (ad 0)), (1, .int a1), (2, .int a2)]) hx hb dX5_doer_5 rfl hl (by decide) rfl (fun ls hl => ?_)
    refine lv_aload_n hx hb dX5_doer_6 rfl (lv_at hl 0 rfl) ?_
    refine lv_ifnull hx hb dX5_doer_7 ?_
    have wk := w.perm (permC G ad kad cad I R WI WA GI GA LI LA LJ nK nC KI KA CK CD hj rfl hi)
    exact W.mono (w_X5_doer_10 C a1 h _ _ wk _ (lv_sub hl [2, 0] rfl)) (EnI.perm (permC G ad kad cad I R WI WA GI GA LI LA LJ nK nC KI KA CK CD hj rfl hi).symm)
