/-! the class's search: sets of tasks as numbers below 64, user by user -/
theorem ts_bit {w : Int64} {s : UInt64} {j : Nat} (hj : j < 64) (hs : s.toNat = j) : ((w.toUInt64 >>> s).toInt64 &&& 1) = 0 ↔ w.toBitVec.getLsbD j = false := by
  have e : (w.toUInt64 >>> s).toInt64.toBitVec = w.toBitVec >>> j := by
    apply BitVec.eq_of_toNat_eq
    show (w.toUInt64 >>> s).toNat = _
    rw [UInt64.toNat_shiftRight, hs, Nat.mod_eq_of_lt hj, BitVec.toNat_ushiftRight]
    rfl
  rw [← Int64.toBitVec_inj, Int64.toBitVec_and, e]
  show w.toBitVec >>> j &&& 1#64 = 0#64 ↔ _
  constructor
  · intro h
    have t := congrArg (fun x => x.getLsbD 0) h
    simpa using t
  · intro h
    apply BitVec.eq_of_getLsbD_eq
    intro i hi
    cases i with
    | zero => simp [h]
    | succ i => simp
theorem wb_tb (n : Nat) : (lN n).toBitVec = BitVec.ofNat 64 n := rfl
theorem wb_c : ∀ k, k < 64 → ((nI k).toInt64 &&& 63) = lN k := by decide +kernel
theorem wb_cu : ∀ k, k < 64 → ((nI k).toInt64.toUInt64 &&& Int64.toUInt64 63) = UInt64.ofNat k := by decide +kernel
theorem wb_sm : ∀ k, k < 64 → (BitVec.ofNat 64 k).smod 64 = BitVec.ofNat 64 k := by decide +kernel
def bL (x : Int64) (i : Nat) : Bool := x.toBitVec.getLsbD i
theorem bL_or (x y : Int64) (i : Nat) : bL (x ||| y) i = (bL x i || bL y i) := by simp [bL]
theorem bL_and (x y : Int64) (i : Nat) : bL (x &&& y) i = (bL x i && bL y i) := by simp [bL]
theorem bL_0 (i : Nat) : bL 0 i = false := by simp [bL]
theorem bL_1 : ∀ i, i < 64 → bL 1 i = decide (i = 0) := by decide +kernel
theorem bL_shl {L S : Nat} (hL : L < 64) (hS : S < 64) (x : Int64) : bL (shL x (nI L)) S = (decide (L ≤ S) && bL x (S - L)) := by
  unfold shL bL
  rw [wb_c L hL, Int64.toBitVec_shiftLeft, wb_tb, wb_sm L hL, BitVec.shiftLeft_eq', BitVec.toNat_ofNat, Nat.mod_eq_of_lt (show L < 2 ^ 64 by omega), BitVec.getLsbD_shiftLeft]
  by_cases h : L ≤ S
  · simp [h, hS, Nat.not_lt.mpr h]
  · simp [h, Nat.lt_of_not_le h]
theorem bL_top {L : Nat} (hL : L < 64) (x : Int64) : ((uShL x (nI L)) &&& 1) = 0 ↔ bL x L = false := by
  unfold uShL bL
  refine ts_bit hL ?_
  rw [wb_cu L hL]
  show (BitVec.ofNat 64 L).toNat = L
  rw [BitVec.toNat_ofNat, Nat.mod_eq_of_lt (show L < 2 ^ 64 by omega)]
theorem nI_or {a b : Nat} (ha : a < 2 ^ 32) (hb : b < 2 ^ 32) : nI a ||| nI b = nI (a ||| b) := by
  refine bI_ext fun i _ => ?_
  rw [bI_or, bI_nI ha, bI_nI hb, bI_nI (Nat.or_lt_two_pow ha hb), Nat.testBit_or]
theorem nI_and {a b : Nat} (ha : a < 2 ^ 32) (hb : b < 2 ^ 32) : nI a &&& nI b = nI (a &&& b) := by
  refine bI_ext fun i _ => ?_
  rw [bI_and, bI_nI ha, bI_nI hb, bI_nI (Nat.and_lt_two_pow _ hb), Nat.testBit_and]
/-- a set as a number -/
def msk (p : Nat → Bool) : Nat → Nat
  | 0 => 0
  | t + 1 => msk p t ||| (if p t = true then 2 ^ t else 0)
theorem msk_bit (p : Nat → Bool) (t i : Nat) : (msk p t).testBit i = (decide (i < t) && p i) := by
  induction t with
  | zero => simp [msk]
  | succ t ih =>
    rw [msk, Nat.testBit_or, ih]
    by_cases h : i = t
    · subst h
      by_cases q : p i = true
      · simp [q]
      · simp [q]
    · have e : (if p t = true then 2 ^ t else 0).testBit i = false := by
        split
        · rw [Nat.testBit_two_pow]
          exact decide_eq_false (fun z => h z.symm)
        · exact Nat.zero_testBit i
      rw [e, Bool.or_false]
      congr 1
      exact decide_eq_decide.mpr (by omega)
theorem msk_lt (p : Nat → Bool) (t : Nat) : msk p t < 2 ^ t := by
  induction t with
  | zero => exact Nat.one_pos
  | succ t ih =>
    have h1 : 2 ^ t < 2 ^ (t + 1) := Nat.pow_lt_pow_right (by omega) (by omega)
    rw [msk]
    refine Nat.or_lt_two_pow (Nat.lt_trans ih h1) ?_
    split
    · exact h1
    · omega
theorem msk_64 (p : Nat → Bool) {t : Nat} (h : t ≤ 6) : msk p t < 64 := Nat.lt_of_lt_of_le (msk_lt p t) (show 2 ^ t ≤ 2 ^ 6 from Nat.pow_le_pow_right (by decide) h)
theorem msk_c {p q : Nat → Bool} {t : Nat} (h : ∀ i, i < t → p i = q i) : msk p t = msk q t := by
  apply Nat.eq_of_testBit_eq
  intro i
  rw [msk_bit, msk_bit]
  by_cases hi : i < t
  · rw [h i hi]
  · simp [hi]
theorem msk_s {p : Nat → Bool} {t : Nat} (h : p t = true) : msk p (t + 1) = msk p t ||| 2 ^ t := by rw [msk, if_pos h]
theorem msk_n {p : Nat → Bool} {t : Nat} (h : ¬ p t = true) : msk p (t + 1) = msk p t := by rw [msk, if_neg h, Nat.or_zero]
theorem tb_lt {S i n : Nat} (hS : S < 2 ^ n) (h : S.testBit i = true) : i < n := by
  rcases Nat.lt_or_ge i n with q | q
  · exact q
  · have h2 : S < 2 ^ i := Nat.lt_of_lt_of_le hS (Nat.pow_le_pow_right (by omega) q)
    rw [Nat.testBit_lt_two_pow h2] at h
    cases h
theorem e_bits {N T : Nat} (hN : 7 ≤ N) (hT : T ≤ 6) (D : Nat → Int32) {KI : Nat → Int32} (KA : Nat → Nat → Int32) (RL : Nat → Int32) (h4 : KI 4 = nI T) (a : Int32) : f_X0_bitsDoneBy N D KI KA RL a = some (nI (msk (fun t => decide (D t = a)) T)) := by
  have loop : ∀ d i n, i + d = T → d < n → f_X0_bitsDoneBy_4 N D KI KA RL n a (nI (msk (fun t => decide (D t = a)) i)) (nI i) = some (nI (msk (fun t => decide (D t = a)) T)) := by
    intro d
    induction d with
    | zero =>
      intro i n hi hn
      obtain ⟨n, rfl⟩ : ∃ k, n = k + 1 := ⟨n - 1, by omega⟩
      rw [f_X0_bitsDoneBy_4, h4, if_pos (nI_le (by omega) (by omega)), show i = T by omega]
    | succ d ih =>
      intro i n hi hn
      obtain ⟨n, rfl⟩ : ∃ k, n = k + 1 := ⟨n - 1, by omega⟩
      rw [f_X0_bitsDoneBy_4, h4, if_neg (nI_ge (show i < T by omega) (by omega)), gd_t (by omega) (by decide), nI_clamp (by omega), xa1]
      have hm : msk (fun t => decide (D t = a)) i < 64 := msk_64 _ (by omega)
      by_cases q : D i = a
      · rw [if_pos q, shl1N (by omega), nI_or (by omega) (Nat.pow_lt_pow_right (by omega) (by omega)), ← msk_s (p := fun t => decide (D t = a)) (decide_eq_true q)]
        exact ih (i + 1) n (by omega) (by omega)
      · rw [if_neg q, ← msk_n (p := fun t => decide (D t = a)) (by simpa using q)]
        exact ih (i + 1) n (by omega) (by omega)
  exact loop T 0 N (by omega) (by omega)
theorem e_left {N T : Nat} (hN : 7 ≤ N) (hT : T ≤ 6) (D : Nat → Int32) {KI : Nat → Int32} (KA : Nat → Nat → Int32) (RL : Nat → Int32) (h4 : KI 4 = nI T) : f_X0_leftBits N D KI KA RL = some (nI (msk (fun t => decide (D t = -1)) T)) := by
  unfold f_X0_leftBits
  rw [e_bits hN hT D KA RL h4, Option.bind_some]
/-- the tasks whose role stands in x -/
def rol (KA : Nat → Nat → Int32) (x : Int32) (t : Nat) : Bool := bI x (KA 0 t).toNatClampNeg
theorem e_within {N T : Nat} (hN : 7 ≤ N) (hT : T ≤ 6) {KI : Nat → Int32} {KA : Nat → Nat → Int32} (h4 : KI 4 = nI T) (hr : ∀ j, j < T → ∃ r, r < 8 ∧ KA 0 j = nI r) (a : Int32) : f_X2_tasksWithin N KI KA a = some (nI (msk (rol KA a) T)) := by
  have loop : ∀ d i n, i + d = T → d < n → f_X2_tasksWithin_4 N KI KA n a (nI (msk (rol KA a) i)) (nI i) = some (nI (msk (rol KA a) T)) := by
    intro d
    induction d with
    | zero =>
      intro i n hi hn
      obtain ⟨n, rfl⟩ : ∃ k, n = k + 1 := ⟨n - 1, by omega⟩
      rw [f_X2_tasksWithin_4, h4, if_pos (nI_le (by omega) (by omega)), show i = T by omega]
    | succ d ih =>
      intro i n hi hn
      obtain ⟨n, rfl⟩ : ∃ k, n = k + 1 := ⟨n - 1, by omega⟩
      obtain ⟨r, hr8, hre⟩ := hr i (by omega)
      have hp : rol KA a i = bI a r := by unfold rol; rw [hre, nI_clamp (by omega)]
      rw [f_X2_tasksWithin_4, h4, if_neg (nI_ge (show i < T by omega) (by omega)), gd_t (by omega) (by decide), nI_clamp (by omega), xa1, hre, e_hasBit _ (by omega), Option.bind_some]
      have hm : msk (rol KA a) i < 64 := msk_64 _ (by omega)
      by_cases q : bI a r = true
      · rw [if_neg (by rw [bZ_t q]; decide), shl1N (by omega), nI_or (by omega) (Nat.pow_lt_pow_right (by omega) (by omega)), ← msk_s (p := rol KA a) (by rw [hp]; exact q)]
        exact ih (i + 1) n (by omega) (by omega)
      · rw [if_pos (bZ_f q), ← msk_n (p := rol KA a) (by rw [hp]; exact q)]
        exact ih (i + 1) n (by omega) (by omega)
  exact loop T 0 N (by omega) (by omega)
/-- how many there are in a set below 64 -/
def pop (S : Nat) : Nat := (S.testBit 0).toNat + (S.testBit 1).toNat + (S.testBit 2).toNat + (S.testBit 3).toNat + (S.testBit 4).toNat + (S.testBit 5).toNat
theorem pop_le (S : Nat) : pop S ≤ 6 := by
  unfold pop
  have h := fun b : Bool => (by cases b <;> decide : b.toNat ≤ 1)
  have h0 := h (S.testBit 0)
  have h1 := h (S.testBit 1)
  have h2 := h (S.testBit 2)
  have h3 := h (S.testBit 3)
  have h4 := h (S.testBit 4)
  have h5 := h (S.testBit 5)
  omega
theorem e_pop : ∀ S, S < 64 → f_J6_bitCount_0f7a4 (nI S) = some (nI (pop S)) := by decide +kernel
/-- a set that one user may do, others doing the rest -/
def AL (T m : Nat) (KA : Nat → Nat → Int32) (S : Nat) : Prop := pop S ≤ m ∧ ∀ t, t < T → S.testBit t = true → KA 2 t &&& nI S = 0 ∧ KA 3 t &&& (nI S ^^^ (-1)) = 0
theorem e_allows {N T m S : Nat} (hN : 7 ≤ N) (hT : T ≤ 6) (hm : m ≤ 6) (hS : S < 64) {KI : Nat → Int32} {KA : Nat → Nat → Int32} (h4 : KI 4 = nI T) (h5 : KI 5 = nI m) : ∃ b : Bool, f_X2_allows N KI KA (nI S) = some (bB b) ∧ (b = true ↔ AL T m KA S) := by
  have loop : ∀ d i n, i + d = T → d < n → ∃ b : Bool, f_X2_allows_15 N KI KA n (nI S) (nI i) = some (bB b) ∧ (b = true ↔ ∀ t, i ≤ t → t < T → S.testBit t = true → KA 2 t &&& nI S = 0 ∧ KA 3 t &&& (nI S ^^^ (-1)) = 0) := by
    intro d
    induction d with
    | zero =>
      intro i n hi hn
      obtain ⟨n, rfl⟩ : ∃ k, n = k + 1 := ⟨n - 1, by omega⟩
      rw [f_X2_allows_15, h4, if_pos (nI_le (by omega) (by omega))]
      exact ⟨true, rfl, fun _ t h1 h2 => by omega, fun _ => rfl⟩
    | succ d ih =>
      intro i n hi hn
      obtain ⟨n, rfl⟩ : ∃ k, n = k + 1 := ⟨n - 1, by omega⟩
      obtain ⟨b, b1, b2⟩ := ih (i + 1) n (by omega) (by omega)
      have hb : bI (nI S) i = S.testBit i := bI_nI (by omega) i
      rw [f_X2_allows_15, h4, if_neg (nI_ge (show i < T by omega) (by omega)), e_hasBit _ (by omega), Option.bind_some, gd_t (by omega) (by decide), gd_t (by omega) (by decide), nI_clamp (by omega), xa1, hb]
      have next : (S.testBit i = true → KA 2 i &&& nI S = 0 ∧ KA 3 i &&& (nI S ^^^ (-1)) = 0) → (b = true ↔ ∀ t, i ≤ t → t < T → S.testBit t = true → KA 2 t &&& nI S = 0 ∧ KA 3 t &&& (nI S ^^^ (-1)) = 0) := by
        intro z
        rw [b2]
        constructor
        · intro y t t1 t2
          by_cases e : t = i
          · rw [e]; exact z
          · exact y t (by omega) t2
        · intro y t t1 t2
          exact y t (by omega) t2
      by_cases q : S.testBit i = true
      · rw [if_neg (by rw [bZ_t q]; decide)]
        by_cases q2 : KA 2 i &&& nI S = 0
        · rw [if_pos q2]
          by_cases q3 : KA 3 i &&& (nI S ^^^ (-1)) = 0
          · rw [if_pos q3]
            exact ⟨b, b1, next fun _ => ⟨q2, q3⟩⟩
          · rw [if_neg q3]
            exact ⟨false, rfl, fun z => (by cases z), fun z => absurd (z i (Nat.le_refl i) (by omega) q).2 q3⟩
        · rw [if_neg q2]
          exact ⟨false, rfl, fun z => (by cases z), fun z => absurd (z i (Nat.le_refl i) (by omega) q).1 q2⟩
      · rw [if_pos (bZ_f q)]
        exact ⟨b, b1, next fun z => absurd z q⟩
  unfold f_X2_allows AL
  rw [e_pop S hS, Option.bind_some, h5]
  have hp := pop_le S
  by_cases q : pop S ≤ m
  · rw [if_pos (nI_le q (by omega))]
    obtain ⟨b, b1, b2⟩ := loop T 0 N (by omega) (by omega)
    exact ⟨b, b1, b2.trans ⟨fun z => ⟨q, fun t => z t (Nat.zero_le t)⟩, fun z t _ => z.2 t⟩⟩
  · rw [if_neg (nI_ge (Nat.not_le.mp q) (by omega))]
    exact ⟨false, rfl, fun z => (by cases z), fun z => absurd z.1 q⟩
/-- the sets that are without each of L, as bits -/
def swl (L : Nat) : Nat → Int64
  | 0 => -1
  | j + 1 => if L.testBit j = true then swl L j &&& SW j else swl L j
theorem sw_bit : ∀ L, L < 64 → ∀ M, M < 64 → bL (swl L 6) M = decide (M &&& L = 0) := by decide +kernel
theorem e_without {N L : Nat} (hN : 7 ≤ N) (hL : L < 64) : f_X0_setsWithoutAnyOf N (nI L) = some (swl L 6) := by
  have loop : ∀ d i n, i + d = 6 → d < n → f_X0_setsWithoutAnyOf_6 N n (nI L) (swl L i) (nI i) = some (swl L 6) := by
    intro d
    induction d with
    | zero =>
      intro i n hi hn
      obtain ⟨n, rfl⟩ : ∃ k, n = k + 1 := ⟨n - 1, by omega⟩
      rw [f_X0_setsWithoutAnyOf_6, show i = 6 by omega, if_pos (by decide)]
    | succ d ih =>
      intro i n hi hn
      obtain ⟨n, rfl⟩ : ∃ k, n = k + 1 := ⟨n - 1, by omega⟩
      rw [f_X0_setsWithoutAnyOf_6, if_neg (show ¬ 6 ≤ nI i from nI_ge (b := 6) (by omega) (by decide)), e_hasBit _ (by omega), Option.bind_some, gd_t (by omega) (by decide), nI_clamp (by omega), xa1, bI_nI (by omega)]
      by_cases q : L.testBit i = true
      · rw [if_neg (by rw [bZ_t q]; decide), ← show swl L (i + 1) = swl L i &&& SW i by rw [swl, if_pos q]]
        exact ih (i + 1) n (by omega) (by omega)
      · rw [if_pos (bZ_f q), ← show swl L (i + 1) = swl L i by rw [swl, if_neg q]]
        exact ih (i + 1) n (by omega) (by omega)
  exact loop 6 0 N (by omega) (by omega)
def SUB (L O : Nat) : Prop := ∀ i, L.testBit i = true → O.testBit i = true
theorem SUB_le {L O : Nat} (h : SUB L O) : L ≤ O := by
  have e : L = O &&& L := by
    apply Nat.eq_of_testBit_eq
    intro i
    rw [Nat.testBit_and]
    by_cases q : L.testBit i = true
    · rw [q, h i q]; rfl
    · simp [q]
  rw [e]
  exact Nat.and_le_left
theorem sub_iff {L O : Nat} (hL : L < 64) (hO : O < 64) : nI L &&& (nI O ^^^ (-1)) = 0 ↔ SUB L O := by
  rw [and_eq0]
  constructor
  · intro h i hi
    by_cases q : O.testBit i = true
    · exact q
    · exfalso
      have h6 := tb_lt (n := 6) hL hi
      refine h i (by rw [bI_nI (by omega)]; exact hi) ?_
      rw [bI_not, bI_nI (by omega), decide_eq_true (show i < 32 by omega)]
      simpa using q
  · intro h i h1 h2
    rw [bI_nI (by omega)] at h1
    rw [bI_not, bI_nI (by omega), h i h1] at h2
    simp at h2
/-- one user more -/
theorem e_shared {N T m O B : Nat} (hN : 70 ≤ N) (hT : T ≤ 6) (hm : m ≤ 6) (hO : O < 64) (hB : B < 64) (D : Nat → Int32) {KI : Nat → Int32} {KA : Nat → Nat → Int32} (RL : Nat → Int32) (h4 : KI 4 = nI T) (h5 : KI 5 = nI m) (x : Int64) :
    ∃ X : Int64, f_X0_sharedWith N D KI KA RL x (nI O) (nI B) = some X ∧ ∀ S, S < 64 → (bL X S = true ↔ ∃ L, (SUB L O ∧ AL T m KA (B ||| L)) ∧ L ≤ S ∧ (S - L) &&& L = 0 ∧ bL x (S - L) = true) := by
  have loop : ∀ d L0 n y, L0 + d = O + 1 → d < n → ∃ X : Int64, f_X0_sharedWith_6 N D KI KA RL n x (nI O) (nI B) y (nI L0) = some X ∧ ∀ S, S < 64 → (bL X S = true ↔ bL y S = true ∨ ∃ L, L0 ≤ L ∧ (SUB L O ∧ AL T m KA (B ||| L)) ∧ L ≤ S ∧ (S - L) &&& L = 0 ∧ bL x (S - L) = true) := by
    intro d
    induction d with
    | zero =>
      intro L0 n y hi hn
      obtain ⟨n, rfl⟩ : ∃ k, n = k + 1 := ⟨n - 1, by omega⟩
      rw [f_X0_sharedWith_6, if_pos (nI_lt (by omega) (by omega))]
      refine ⟨y, rfl, fun S hS => ⟨Or.inl, fun h => ?_⟩⟩
      rcases h with h | ⟨L, l1, ⟨l2, -⟩, -⟩
      · exact h
      · have := SUB_le l2
        omega
    | succ d ih =>
      intro L0 n y hi hn
      obtain ⟨n, rfl⟩ : ∃ k, n = k + 1 := ⟨n - 1, by omega⟩
      rw [f_X0_sharedWith_6, if_neg (nI_nlt (show L0 ≤ O by omega) (by omega)), xa1]
      have skip : ¬ (SUB L0 O ∧ AL T m KA (B ||| L0)) → ∃ X : Int64, f_X0_sharedWith_6 N D KI KA RL n x (nI O) (nI B) y (nI (L0 + 1)) = some X ∧ ∀ S, S < 64 → (bL X S = true ↔ bL y S = true ∨ ∃ L, L0 ≤ L ∧ (SUB L O ∧ AL T m KA (B ||| L)) ∧ L ≤ S ∧ (S - L) &&& L = 0 ∧ bL x (S - L) = true) := by
        intro z
        obtain ⟨X, x1, x2⟩ := ih (L0 + 1) n y (by omega) (by omega)
        refine ⟨X, x1, fun S hS => (x2 S hS).trans (or_congr_right ⟨?_, ?_⟩)⟩
        · rintro ⟨L, l1, l2⟩
          exact ⟨L, by omega, l2⟩
        · rintro ⟨L, l1, l2⟩
          by_cases e : L = L0
          · rw [e] at l2; exact absurd l2.1 z
          · exact ⟨L, by omega, l2⟩
      by_cases q : SUB L0 O
      · rw [if_pos ((sub_iff (by omega) hO).mpr q), nI_or (by omega) (by omega)]
        obtain ⟨b, b1, b2⟩ := e_allows (N := N) (T := T) (m := m) (S := B ||| L0) (by omega) hT hm (Nat.or_lt_two_pow (n := 6) hB (by omega)) h4 h5
        rw [b1, Option.bind_some]
        cases b with
        | false =>
          rw [show bB false = 0 from rfl, if_pos zero_t]
          exact skip fun z => by have := b2.mpr z.2; cases this
        | true =>
          rw [show bB true = 1 from rfl, if_neg one_ne, e_without (by omega) (by omega), Option.bind_some]
          obtain ⟨X, x1, x2⟩ := ih (L0 + 1) n (y ||| shL (x &&& swl L0 6) (nI L0)) (by omega) (by omega)
          refine ⟨X, x1, fun S hS => (x2 S hS).trans ?_⟩
          rw [bL_or, bL_shl (by omega) hS, bL_and]
          constructor
          · rintro (h | ⟨L, l1, l2⟩)
            · rcases Bool.or_eq_true_iff.mp h with h | h
              · exact Or.inl h
              · obtain ⟨h1, h2⟩ := Bool.and_eq_true_iff.mp h
                obtain ⟨h3, h4⟩ := Bool.and_eq_true_iff.mp h2
                have h1 := of_decide_eq_true h1
                rw [sw_bit L0 (by omega) _ (by omega)] at h4
                exact Or.inr ⟨L0, Nat.le_refl _, ⟨q, b2.mp rfl⟩, h1, of_decide_eq_true h4, h3⟩
            · exact Or.inr ⟨L, by omega, l2⟩
          · rintro (h | ⟨L, l1, l2, l3, l4, l5⟩)
            · exact Or.inl (by rw [h]; rfl)
            · by_cases e : L = L0
              · subst e
                refine Or.inl ?_
                rw [l5, sw_bit L (by omega) _ (by omega), decide_eq_true l3, decide_eq_true l4]
                simp
              · exact Or.inr ⟨L, by omega, l2, l3, l4, l5⟩
      · rw [if_neg (fun z => q ((sub_iff (by omega) hO).mp z))]
        exact skip fun z => q z.1
  obtain ⟨X, x1, x2⟩ := loop (O + 1) 0 N 0 (by omega) (by omega)
  refine ⟨X, x1, fun S hS => (x2 S hS).trans ?_⟩
  rw [bL_0]
  constructor
  · rintro (h | ⟨L, -, l2⟩)
    · cases h
    · exact ⟨L, l2⟩
  · rintro ⟨L, l2⟩
    exact Or.inr ⟨L, Nat.zero_le L, l2⟩
/-- the sets that the users below n can do between them -/
def RS (ok : Nat → Nat → Prop) : Nat → Nat → Prop
  | 0, S => S = 0
  | n + 1, S => ∃ L, ok n L ∧ L ≤ S ∧ (S - L) &&& L = 0 ∧ RS ok n (S - L)
def okU (T m : Nat) (D : Nat → Int32) (KA : Nat → Nat → Int32) (RL : Nat → Int32) (u L : Nat) : Prop := SUB L (msk (fun t => decide (D t = -1)) T &&& msk (rol KA (RL u)) T) ∧ AL T m KA (msk (fun t => decide (D t = nI u)) T ||| L)
theorem e_could {N T m : Nat} (hN : 70 ≤ N) (hT : T ≤ 6) (hm : m ≤ 6) (D : Nat → Int32) {KI : Nat → Int32} {KA : Nat → Nat → Int32} (RL : Nat → Int32) (h4 : KI 4 = nI T) (h5 : KI 5 = nI m) (hr : ∀ j, j < T → ∃ r, r < 8 ∧ KA 0 j = nI r) :
    ∃ b : Bool, f_X0_couldEnd N D KI KA RL = some (bB b) ∧ (b = true ↔ RS (okU T m D KA RL) 12 (msk (fun t => decide (D t = -1)) T)) := by
  have hl := msk_64 (fun t => decide (D t = -1)) hT
  have loop : ∀ d u n y, u + d = 12 → d < n → (∀ S, S < 64 → (bL y S = true ↔ RS (okU T m D KA RL) u S)) → ∃ b : Bool, f_X0_couldEnd_10 N D KI KA RL n (nI (msk (fun t => decide (D t = -1)) T)) y (nI u) = some (bB b) ∧ (b = true ↔ RS (okU T m D KA RL) 12 (msk (fun t => decide (D t = -1)) T)) := by
    intro d
    induction d with
    | zero =>
      intro u n y hi hn hy
      obtain ⟨n, rfl⟩ : ∃ k, n = k + 1 := ⟨n - 1, by omega⟩
      have hu : u = 12 := by omega
      subst hu
      rw [f_X0_couldEnd_10, if_pos (by decide)]
      have h := hy _ hl
      by_cases q : bL y (msk (fun t => decide (D t = -1)) T) = true
      · rw [if_neg (fun z => by rw [lg0, bL_top hl, q] at z; cases z)]
        exact ⟨true, rfl, fun _ => h.mp q, fun _ => rfl⟩
      · rw [if_pos (by rw [lg0, bL_top hl]; simpa using q)]
        exact ⟨false, rfl, fun z => (by cases z), fun z => absurd (h.mpr z) q⟩
    | succ d ih =>
      intro u n y hi hn hy
      obtain ⟨n, rfl⟩ : ∃ k, n = k + 1 := ⟨n - 1, by omega⟩
      have hO : (msk (fun t => decide (D t = -1)) T &&& msk (rol KA (RL u)) T) < 64 := Nat.and_lt_two_pow (n := 6) _ (msk_64 _ hT)
      rw [f_X0_couldEnd_10, if_neg (show ¬ 12 ≤ nI u from nI_ge (b := 12) (by omega) (by decide)), gd_t (by omega) (by decide), nI_clamp (by omega), e_within (by omega) hT h4 hr, Option.bind_some, e_bits (by omega) hT D KA RL h4, Option.bind_some, nI_and (by omega) (by have := msk_64 (rol KA (RL u)) hT; omega), xa1]
      obtain ⟨X, x1, x2⟩ := e_shared (N := N) (m := m) (O := msk (fun t => decide (D t = -1)) T &&& msk (rol KA (RL u)) T) (B := msk (fun t => decide (D t = nI u)) T) hN hT hm hO (msk_64 _ hT) D RL h4 h5 y
      rw [x1, Option.bind_some]
      refine ih (u + 1) n X (by omega) (by omega) (fun S hS => (x2 S hS).trans ?_)
      show _ ↔ ∃ L, okU T m D KA RL u L ∧ L ≤ S ∧ (S - L) &&& L = 0 ∧ RS (okU T m D KA RL) u (S - L)
      constructor
      · rintro ⟨L, l1, l2, l3, l4⟩
        exact ⟨L, l1, l2, l3, (hy _ (by omega)).mp l4⟩
      · rintro ⟨L, l1, l2, l3, l4⟩
        exact ⟨L, l1, l2, l3, (hy _ (by omega)).mpr l4⟩
  unfold f_X0_couldEnd
  rw [e_left (by omega) hT D KA RL h4, Option.bind_some]
  exact loop 12 0 N 1 (by omega) (by omega) (fun S hS => by rw [bL_1 S hS]; exact decide_eq_true_iff)
