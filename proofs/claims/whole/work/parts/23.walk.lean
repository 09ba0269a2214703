/-! perform: a task is done, or why not -/
def anyB (q : Nat → Bool) : Nat → Bool
  | 0 => false
  | i + 1 => anyB q i || q i
theorem anyB_f (q : Nat → Bool) (T : Nat) : anyB q T = false ↔ ∀ i, i < T → q i = false := by
  induction T with
  | zero => exact ⟨fun _ i hi => by omega, fun _ => rfl⟩
  | succ T ih =>
    rw [anyB, Bool.or_eq_false_iff, ih]
    refine ⟨fun h i hi => ?_, fun h => ⟨fun i hi => h i (by omega), h T (by omega)⟩⟩
    by_cases z : i = T
    · rw [z]; exact h.2
    · exact h.1 i (by omega)
def pr (i a : Nat) : Nat := 6 * (if i ≤ a then i else a) + (if i ≤ a then a else i)
theorem pr_lt {i a : Nat} (hi : i < 6) (ha : a < 6) : pr i a < 36 := by
  unfold pr
  by_cases z : i ≤ a
  · rw [if_pos z, if_pos z]; omega
  · rw [if_neg z, if_neg z]; omega
theorem e_pr {k i a : Nat} (hk : k < 4) (hi : i < 6) (ha : a < 6) : f_X6_pair (nI k) (nI i) (nI a) = some (nI (36 * k + pr i a)) := e_pair hk hi ha
theorem PM_pr {M P : Nat → Int32} {t i a : Nat} (h : PM M P t) (hi : i < 6) (ha : a < 6) (hne : ¬ i = a) : bI (M a) i = !decide (P (pr i a) = 0) := by
  unfold pr
  by_cases z : i ≤ a
  · rw [if_pos z, if_pos z]
    have h1 := h.1 i a (by omega) ha
    rw [h1.2, h1.1]
  · rw [if_neg z, if_neg z]
    exact (h.1 a i (by omega) hi).1
theorem e232 (N : Nat) (k75 : (Nat → Int32) → (Nat → Nat → Int32) → (Nat → Nat → Int64) → Int32 → Int32 → Int32 → Int32 → Int32 → Int32 → Int32 → Int32 → Int32 → Int32 → Int32 → Int32 → Option (Int32 × (Nat → Int32) × (Nat → Nat → Int32) × (Nat → Nat → Int64))) (I : Nat → Int32) (A : Nat → Nat → Int32) (J : Nat → Nat → Int64) (v1 v2 v3 v4 v5 v6 v7 v8 v9 v11 v12 v13 s0 : Int32) : f_X6_perform_232 N k75 I A J v1 v2 v3 v4 v5 v6 v7 v8 v9 v11 v12 v13 s0 = k75 I A J v1 v2 v3 v4 v5 v6 v7 v8 v9 s0 (if 0 ≤ v13 then v11 else v11 + 1) (v12 + 1) := by
  unfold f_X6_perform_232
  by_cases z : 0 ≤ v13
  · rw [if_pos z, if_pos z]
  · rw [if_neg z, if_neg z]
theorem e170 {k a i : Nat} (hk : k < 4) (ha : a < 6) (hi : i < 6) (N : Nat) (k75 : (Nat → Int32) → (Nat → Nat → Int32) → (Nat → Nat → Int64) → Int32 → Int32 → Int32 → Int32 → Int32 → Int32 → Int32 → Int32 → Int32 → Int32 → Int32 → Int32 → Option (Int32 × (Nat → Int32) × (Nat → Nat → Int32) × (Nat → Nat → Int64))) (I : Nat → Int32) (A : Nat → Nat → Int32) (J : Nat → Nat → Int64) (v2 v5 v6 v7 v10 v11 d s0 : Int32) (u : Nat) (b9 : Bool) :
    f_X6_perform_170 N k75 I A J (nI a) v2 (nI u) (nI k) v5 v6 v7 (bB b9) v10 v11 (nI i) d s0 = k75 I A J (nI a) v2 (nI u) (nI k) v5 v6 v7 s0 (bB (b9 || (!decide (i = a) && (!decide (d < 0) && !decide (d = nI u)) && !decide (A 17 (36 * k + pr i a) = 0)))) (if d = nI u then v10 + 1 else v10) (if 0 ≤ d then v11 else v11 + 1) (nI i + 1) := by
  unfold f_X6_perform_170
  have hx := pr_lt hi ha
  have hia : (nI i = nI a) ↔ i = a := nI_eq (by omega) (by omega)
  rw [e_pr hk hi ha]
  simp only [Option.bind_some, gd_t (show 36 * k + pr i a < 144 by omega) (show (144 : Nat) < 2 ^ 31 by decide), nI_clamp (show 36 * k + pr i a < 2 ^ 31 by omega), e232, hia]
  generalize A 17 (36 * k + pr i a) = x
  cases b9 with
  | true =>
    rw [show bB true = 1 from rfl, if_neg one_ne]
    by_cases z3 : d = nI u
    · rw [if_pos z3, if_pos z3]; rfl
    · rw [if_neg z3, if_neg z3]; rfl
  | false =>
    rw [show bB false = 0 from rfl, if_pos zero_t, Bool.false_or]
    by_cases z1 : i = a
    · rw [if_pos z1, decide_eq_true z1]
      by_cases z3 : d = nI u
      · rw [if_pos z3, if_pos z3]; rfl
      · rw [if_neg z3, if_neg z3]; rfl
    · rw [if_neg z1, decide_eq_false z1]
      by_cases z2 : d < 0
      · rw [if_pos z2, decide_eq_true z2]
        by_cases z3 : d = nI u
        · rw [if_pos z3, if_pos z3]; rfl
        · rw [if_neg z3, if_neg z3]; rfl
      · rw [if_neg z2, decide_eq_false z2]
        by_cases z3 : d = nI u
        · rw [if_pos z3, if_pos z3, if_pos z3, decide_eq_true z3]; rfl
        · rw [if_neg z3, if_neg z3, if_neg z3, if_neg z3, decide_eq_false z3]
          by_cases z4 : x = 0
          · rw [if_pos z4, decide_eq_true z4]; rfl
          · rw [if_neg z4, decide_eq_false z4]; rfl
theorem e130 {k a i : Nat} (hk : k < 4) (ha : a < 6) (hi : i < 6) (N : Nat) (k75 : (Nat → Int32) → (Nat → Nat → Int32) → (Nat → Nat → Int64) → Int32 → Int32 → Int32 → Int32 → Int32 → Int32 → Int32 → Int32 → Int32 → Int32 → Int32 → Int32 → Option (Int32 × (Nat → Int32) × (Nat → Nat → Int32) × (Nat → Nat → Int64))) (I : Nat → Int32) (A : Nat → Nat → Int32) (J : Nat → Nat → Int64) (v2 v5 v6 v9 v10 v11 d s0 : Int32) (u : Nat) (b8 : Bool) :
    f_X6_perform_130 N k75 I A J (nI a) v2 (nI u) (nI k) v5 v6 (bB b8) v9 v10 v11 (nI i) d s0 = f_X6_perform_170 N k75 I A J (nI a) v2 (nI u) (nI k) v5 v6 s0 v9 v10 v11 (nI i) d (bB (b8 || (!decide (i = a) && decide (d = nI u) && !decide (A 16 (36 * k + pr i a) = 0)))) := by
  unfold f_X6_perform_130
  have hx := pr_lt hi ha
  have hia : (nI i = nI a) ↔ i = a := nI_eq (by omega) (by omega)
  rw [e_pr hk hi ha]
  simp only [Option.bind_some, gd_t (show 36 * k + pr i a < 144 by omega) (show (144 : Nat) < 2 ^ 31 by decide), nI_clamp (show 36 * k + pr i a < 2 ^ 31 by omega), hia]
  generalize A 16 (36 * k + pr i a) = x
  cases b8 with
  | true =>
    rw [show bB true = 1 from rfl, if_neg one_ne]; rfl
  | false =>
    rw [show bB false = 0 from rfl, if_pos zero_t, Bool.false_or]
    by_cases z1 : i = a
    · rw [if_pos z1, decide_eq_true z1]; rfl
    · rw [if_neg z1, decide_eq_false z1]
      by_cases z3 : d = nI u
      · rw [if_pos z3, decide_eq_true z3]
        by_cases z4 : x = 0
        · rw [if_pos z4, decide_eq_true z4]; rfl
        · rw [if_neg z4, decide_eq_false z4]; rfl
      · rw [if_neg z3, decide_eq_false z3]; rfl
theorem e75 {k a i c T u : Nat} (hk : k < 4) (ha : a < 6) (hi : i < T) (hT : T ≤ 6) (hc : c < 16) (N n : Nat) (I : Nat → Int32) (A : Nat → Nat → Int32) (J : Nat → Nat → Int64) (v10 v11 : Int32) (b7 b8 b9 : Bool) {d x : Int32} (hd : A 21 (6 * c + i) = d) (hx15 : A 15 (6 * k + a) = x) :
    f_X6_perform_75 N (n + 1) I A J (nI a) (nI c) (nI u) (nI k) (nI (6 * c)) (nI T) (bB b7) (bB b8) (bB b9) v10 v11 (nI i) = f_X6_perform_75 N n I A J (nI a) (nI c) (nI u) (nI k) (nI (6 * c)) (nI T) (bB (b7 || (bI x i && decide (d < 0)))) (bB (b8 || (!decide (i = a) && decide (d = nI u) && !decide (A 16 (36 * k + pr i a) = 0)))) (bB (b9 || (!decide (i = a) && (!decide (d < 0) && !decide (d = nI u)) && !decide (A 17 (36 * k + pr i a) = 0)))) (if d = nI u then v10 + 1 else v10) (if 0 ≤ d then v11 else v11 + 1) (nI (i + 1)) := by
  have h0 : (0 ≤ d) ↔ ¬ d < 0 := Int32.not_lt.symm
  rw [f_X6_perform_75, if_neg (nI_ge hi (by omega)), xa, gd_t (show 6 * c + i < 96 by omega) (by decide), nI_clamp (show 6 * c + i < 2 ^ 31 by omega), hd, show (6 : Int32) * nI k + nI a = nI (6 * k + a) by rw [show (6 : Int32) = nI 6 from rfl, pk_mul, nI_add], gd_t (show 6 * k + a < 24 by omega) (by decide), nI_clamp (show 6 * k + a < 2 ^ 31 by omega), hx15]
  simp only [e130 hk ha (show i < 6 by omega), e170 hk ha (show i < 6 by omega), xa1]
  cases b7 with
  | true => rw [show bB true = 1 from rfl, if_neg one_ne]; rfl
  | false =>
    rw [show bB false = 0 from rfl, if_pos zero_t, Bool.false_or]
    by_cases z : bI x i = true
    · rw [if_pos ((hb_s1 (by omega) _).mpr z), z]
      by_cases z2 : d < 0
      · rw [if_neg (show ¬ 0 ≤ d from fun h => h0.mp h z2), decide_eq_true z2]; rfl
      · rw [if_pos (h0.mpr z2), decide_eq_false z2]; rfl
    · rw [if_neg (fun h => z ((hb_s1 (by omega) _).mp h)), Bool.eq_false_iff.mpr z]; rfl
theorem cnt_rm {q q' : Nat → Bool} {a : Nat} (hq : q a = true) (hq' : q' a = false) (h : ∀ i, ¬ i = a → q i = q' i) : ∀ T, a < T → cnt q T = cnt q' T + 1 := by
  intro T
  induction T with
  | zero => intro h; omega
  | succ T ih =>
    intro hT
    rw [cnt, cnt]
    by_cases z : a = T
    · subst z
      rw [cnt_c (q := q) (q' := q') (fun i hi => h i (by omega)), hq, hq']
      simp
    · rw [ih (by omega), h T (fun y => z y.symm)]
      omega
def qE (D : Nat → Int32) (x : Int32) (i : Nat) : Bool := bI x i && decide (D i = -1)
def qA (D : Nat → Int32) (P : Nat → Int32) (a u i : Nat) : Bool := !decide (i = a) && decide (D i = nI u) && !decide (P (pr i a) = 0)
def qO (D : Nat → Int32) (Q : Nat → Int32) (a u i : Nat) : Bool := !decide (i = a) && (!decide (D i = -1) && !decide (D i = nI u)) && !decide (Q (pr i a) = 0)
/-- the reference's walk over the tasks -/
theorem e75_all {k a c T u : Nat} (hk : k < 4) (ha : a < 6) (hT : T ≤ 6) (hc : c < 16) (N : Nat) (I : Nat → Int32) (A : Nat → Nat → Int32) (J : Nat → Nat → Int64) {D : Nat → Int32} {x : Int32} (hD : ∀ t, t < 6 → D t = A 21 (6 * c + t) ∧ (D t = -1 ∨ ∃ v, v < 12 ∧ D t = nI v)) (hx15 : A 15 (6 * k + a) = x) : ∀ d i n, i + d = T →
    f_X6_perform_75 N (n + d) I A J (nI a) (nI c) (nI u) (nI k) (nI (6 * c)) (nI T) (bB (anyB (qE D x) i)) (bB (anyB (qA D (fun q => A 16 (36 * k + q)) a u) i)) (bB (anyB (qO D (fun q => A 17 (36 * k + q)) a u) i)) (nI (cnt (fun t => decide (D t = nI u)) i)) (nI (cnt (fun t => decide (D t = -1)) i)) (nI i)
    = f_X6_perform_75 N n I A J (nI a) (nI c) (nI u) (nI k) (nI (6 * c)) (nI T) (bB (anyB (qE D x) T)) (bB (anyB (qA D (fun q => A 16 (36 * k + q)) a u) T)) (bB (anyB (qO D (fun q => A 17 (36 * k + q)) a u) T)) (nI (cnt (fun t => decide (D t = nI u)) T)) (nI (cnt (fun t => decide (D t = -1)) T)) (nI T) := by
  intro d
  induction d with
  | zero =>
    intro i n hi
    rw [show i = T by omega]; rfl
  | succ d ih =>
    intro i n hi
    obtain ⟨h1, h2⟩ := hD i (by omega)
    have hneg : D i < 0 ↔ D i = -1 := by
      rcases h2 with h2 | ⟨v, hv, h2⟩
      · rw [h2]; decide
      · rw [h2]; exact ⟨fun z => absurd z (nI_pos (by omega)), fun z => absurd z (nm1 (by omega))⟩
    have hpos : 0 ≤ D i ↔ ¬ D i = -1 := by rw [← hneg]; exact Int32.not_lt.symm
    rw [show n + (d + 1) = (n + d) + 1 by omega, e75 hk ha (show i < T by omega) hT hc N (n + d) I A J _ _ _ _ _ h1.symm hx15, ← ih (i + 1) n (by omega)]
    have e1 : nI (cnt (fun t => decide (D t = nI u)) (i + 1)) = if D i = nI u then nI (cnt (fun t => decide (D t = nI u)) i) + 1 else nI (cnt (fun t => decide (D t = nI u)) i) := by
      rw [cnt]
      by_cases z : D i = nI u
      · rw [if_pos z, if_pos (decide_eq_true z), xa1]
      · rw [if_neg z, if_neg (by simpa using z), Nat.add_zero]
    have e2 : nI (cnt (fun t => decide (D t = -1)) (i + 1)) = if 0 ≤ D i then nI (cnt (fun t => decide (D t = -1)) i) else nI (cnt (fun t => decide (D t = -1)) i) + 1 := by
      rw [cnt]
      by_cases z : D i = -1
      · rw [if_neg (fun y => hpos.mp y z), if_pos (decide_eq_true z), xa1]
      · rw [if_pos (hpos.mpr z), if_neg (by simpa using z), Nat.add_zero]
    have e3 : decide (D i < 0) = decide (D i = -1) := decide_eq_decide.mpr hneg
    rw [e1, e2, e3]
    rfl
