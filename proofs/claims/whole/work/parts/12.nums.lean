/-! bits of ints -/
def bI (x : Int32) (i : Nat) : Bool := x.toBitVec.getLsbD i
theorem bI_lt {x : Int32} {i : Nat} (h : bI x i = true) : i < 32 := BitVec.lt_of_getLsbD h
theorem bI_ge {x : Int32} {i : Nat} (h : 32 ≤ i) : bI x i = false := BitVec.getLsbD_of_ge _ _ h
theorem bI_ext {x y : Int32} (h : ∀ i, i < 32 → bI x i = bI y i) : x = y := Int32.toBitVec_inj.mp (BitVec.eq_of_getLsbD_eq fun i hi => h i hi)
theorem bI_and (x y : Int32) (i : Nat) : bI (x &&& y) i = (bI x i && bI y i) := by simp [bI]
theorem bI_or (x y : Int32) (i : Nat) : bI (x ||| y) i = (bI x i || bI y i) := by simp [bI]
theorem bI_xor (x y : Int32) (i : Nat) : bI (x ^^^ y) i = (bI x i ^^ bI y i) := by simp [bI]
theorem bI_0 (i : Nat) : bI 0 i = false := by simp [bI]
theorem bI_m1 (i : Nat) : bI (-1) i = decide (i < 32) := by
  show ((-1 : Int32).toBitVec).getLsbD i = _
  rw [show (-1 : Int32).toBitVec = BitVec.allOnes 32 from by decide, BitVec.getLsbD_allOnes]
theorem bI_not (x : Int32) (i : Nat) : bI (x ^^^ (-1)) i = (decide (i < 32) && !bI x i) := by
  rw [bI_xor, bI_m1]
  by_cases h : i < 32
  · simp [h]
  · simp [h, bI_ge (Nat.not_lt.mp h)]
theorem bI_1 (i : Nat) : bI 1 i = decide (i = 0) := by
  show (1#32).getLsbD i = _
  rw [BitVec.getLsbD_one]
  simp
theorem bI_nI {m : Nat} (h : m < 2 ^ 32) (i : Nat) : bI (nI m) i = m.testBit i := by
  show ((nI m).toBitVec).getLsbD i = _
  rw [BitVec.getLsbD, pk_tn h]
theorem sh31 : ∀ k, k < 32 → ((nI k &&& 31).toBitVec.smod 32).toNat = k := by decide +kernel
theorem shu31 : ∀ k, k < 32 → (((nI k).toUInt32 &&& Int32.toUInt32 31).toBitVec % 32).toNat = k := by decide +kernel
theorem bI_shl1 {k : Nat} (hk : k < 32) (i : Nat) : bI ((1 : Int32) <<< (nI k &&& 31)) i = decide (i = k) := by
  show (((1 : Int32) <<< (nI k &&& 31)).toBitVec).getLsbD i = _
  have h := pk_shl 1 (nI k &&& 31) k (sh31 k hk)
  have h1 : (2 : Nat) ^ k < 2 ^ 32 := Nat.pow_lt_pow_right (by omega) hk
  rw [BitVec.getLsbD, h]
  rw [show (1 : Int32).toBitVec.toNat = 1 from rfl, Nat.one_mul, Nat.mod_eq_of_lt h1, Nat.testBit_two_pow]
  simp [eq_comm]
theorem shl1N {k : Nat} (hk : k < 31) : (1 : Int32) <<< (nI k &&& 31) = nI (2 ^ k) := by
  have h1 : (2 : Nat) ^ k < 2 ^ 32 := Nat.pow_lt_pow_right (by omega) (by omega)
  refine bI_ext fun i hi => ?_
  rw [bI_shl1 (by omega), bI_nI h1, Nat.testBit_two_pow]
  simp [eq_comm]
theorem bI_ushr {k : Nat} (hk : k < 32) (x : Int32) (i : Nat) : bI (uSh x (nI k)) i = bI x (k + i) := by
  show ((uSh x (nI k)).toBitVec).getLsbD i = x.toBitVec.getLsbD (k + i)
  have h := pk_ushr x (nI k) k (shu31 k hk)
  unfold uSh
  rw [BitVec.getLsbD, h, BitVec.getLsbD, Nat.testBit_div_two_pow]
  rw [Nat.add_comm]
theorem bI_shr {k : Nat} (hk : k < 32) (x : Int32) : bI (x >>> (nI k &&& 31)) 0 = bI x k := by
  show ((x >>> (nI k &&& 31)).toBitVec).getLsbD 0 = x.toBitVec.getLsbD k
  rw [Int32.toBitVec_shiftRight]
  rw [BitVec.sshiftRight', sh31 k hk]
  rw [BitVec.getLsbD_sshiftRight]
  simp [hk]
theorem and1 (z : Int32) : z &&& 1 = if bI z 0 = true then 1 else 0 := by
  refine bI_ext fun i hi => ?_
  rw [bI_and, bI_1]
  by_cases h0 : i = 0
  · subst h0
    by_cases hb : bI z 0 = true <;> simp [hb, bI_1, bI_0]
  · by_cases hb : bI z 0 = true <;> simp [hb, h0, bI_1, bI_0]
theorem hb_u {k : Nat} (hk : k < 32) (x : Int32) : ((uSh x (nI k)) &&& 1 = 0) ↔ bI x k = false := by
  rw [and1, bI_ushr hk, Nat.add_zero]
  by_cases hb : bI x k = true <;> simp [hb]
theorem hb_s {k : Nat} (hk : k < 32) (x : Int32) : ((x >>> (nI k &&& 31)) &&& 1 = 0) ↔ bI x k = false := by
  rw [and1, bI_shr hk]
  by_cases hb : bI x k = true <;> simp [hb]
theorem hb_s1 {k : Nat} (hk : k < 32) (x : Int32) : ((x >>> (nI k &&& 31)) &&& 1 = 1) ↔ bI x k = true := by
  rw [and1, bI_shr hk]
  by_cases hb : bI x k = true <;> simp [hb]
theorem and_eq0 (x y : Int32) : x &&& y = 0 ↔ ∀ i, bI x i = true → bI y i = true → False := by
  constructor
  · intro h i hx hy
    have h1 := bI_and x y i
    rw [h, bI_0, hx, hy] at h1
    cases h1
  · intro h
    refine bI_ext fun i hi => ?_
    rw [bI_and, bI_0]
    by_cases hx : bI x i = true
    · by_cases hy : bI y i = true
      · exact (h i hx hy).elim
      · simp [hy]
    · simp [hx]
theorem eq0_iff (x : Int32) : x = 0 ↔ ∀ i, bI x i = false := by
  constructor
  · rintro rfl i; exact bI_0 i
  · intro h; exact bI_ext fun i _ => by rw [h, bI_0]
/-- yes or no as an int -/
def bZ (p : Prop) [Decidable p] : Int32 := if p then 1 else 0
theorem bZ0 {p : Prop} [Decidable p] : bZ p = 0 ↔ ¬ p := by
  unfold bZ; by_cases h : p <;> simp [h]
theorem bZ1 {p : Prop} [Decidable p] : bZ p = 1 ↔ p := by
  unfold bZ; by_cases h : p <;> simp [h]
theorem bZ01 {p : Prop} [Decidable p] : bZ p = 0 ∨ bZ p = 1 := by
  unfold bZ; by_cases h : p <;> simp [h]
theorem bZ_t {p : Prop} [Decidable p] (h : p) : bZ p = 1 := bZ1.mpr h
theorem bZ_f {p : Prop} [Decidable p] (h : ¬ p) : bZ p = 0 := bZ0.mpr h
theorem bZ_c {p q : Prop} [Decidable p] [Decidable q] (h : p ↔ q) : bZ p = bZ q := by
  unfold bZ; by_cases hp : p
  · rw [if_pos hp, if_pos (h.mp hp)]
  · rw [if_neg hp, if_neg (fun hq => hp (h.mpr hq))]
theorem gd_t {α : Type} {j n : Nat} {k : Option α} (h : j < n) (hn : n < 2 ^ 31) : gd (nI j) n k = k := by
  unfold gd; exact if_pos (vp_in_nI h hn)
theorem gd_T {α : Type} {i : Int32} {n : Nat} {k : Option α} (h : vp_in i n) : gd i n k = k := by
  unfold gd; exact if_pos h
theorem gp_t {α : Type} {c : Prop} [Decidable c] {k : Option α} (h : c) : gp c k = k := by
  unfold gp; rw [if_pos h]
/-- an int within 0 .. n - 1 -/
def inR (a : Int32) (n : Nat) : Prop := 0 ≤ a ∧ a < nI n
theorem inR_of {a : Int32} {n : Nat} (hn : n < 2 ^ 31) (h : inR a n) : ∃ j, j < n ∧ a = nI j := by
  obtain ⟨j, hj, rfl⟩ := nI_of (Int32.not_lt.mpr h.1)
  exact ⟨j, (nI_ltI hj hn).mp h.2, rfl⟩
theorem inR_nI {j n : Nat} (hn : n < 2 ^ 31) (h : j < n) : inR (nI j) n := ⟨nI_pos' (by omega), nI_lt h hn⟩
theorem leP (a : Int32) {n : Nat} (hn : n < 2 ^ 31) : a ≤ nI n - 1 ↔ a < nI n := by
  rw [Int32.le_iff_toInt_le, Int32.lt_iff_toInt_lt]
  have h1 : (nI n - 1).toInt = (n : Int) - 1 := by
    have := pk_sub_toInt (a := n) (b := 1)
    rcases Nat.lt_or_ge n (2 ^ 30) with h | h
    · exact this h (by decide)
    · rw [show (1 : Int32) = nI 1 from rfl, pk_sub (by omega), nI_toInt (by omega)]; omega
  rw [h1, nI_toInt hn]
  omega
theorem e_isIn (a b c : Int32) : f_X6_isIn a b c = some (bZ (b ≤ a ∧ a ≤ c)) := by
  unfold f_X6_isIn bZ
  by_cases h1 : a < b
  · rw [if_pos h1, if_neg (fun h => absurd h.1 (Int32.not_le.mpr h1))]
  · rw [if_neg h1]
    by_cases h2 : c < a
    · rw [if_pos h2, if_neg (fun h => absurd h.2 (Int32.not_le.mpr h2))]
    · rw [if_neg h2, if_pos ⟨Int32.not_lt.mp h1, Int32.not_lt.mp h2⟩]
theorem e_isBelow (a b : Int32) : f_X5_isBelow a b = some (bZ (0 ≤ a ∧ a < b)) := by
  unfold f_X5_isBelow bZ
  by_cases h1 : a < 0
  · rw [if_pos h1, if_neg (fun h => absurd h.1 (Int32.not_le.mpr h1))]
  · rw [if_neg h1]
    by_cases h2 : b ≤ a
    · rw [if_pos h2, if_neg (fun h => absurd h.2 (Int32.not_lt.mpr h2))]
    · rw [if_neg h2, if_pos ⟨Int32.not_lt.mp h1, Int32.not_le.mp h2⟩]
theorem e_in0 (a : Int32) {n : Nat} (hn : n < 2 ^ 31) : f_X6_isIn a 0 (nI n - 1) = some (bZ (0 ≤ a ∧ a < nI n)) := by
  rw [e_isIn, bZ_c (and_congr_right fun _ => leP a hn)]
theorem e_hasBit (x : Int32) {k : Nat} (hk : k < 32) : f_X5_hasBit x (nI k) = some (bZ (bI x k = true)) := by
  unfold f_X5_hasBit bZ
  by_cases h : bI x k = true
  · rw [if_neg (fun z => by rw [(hb_u hk x).mp z] at h; cases h), if_pos h]
  · rw [if_pos ((hb_u hk x).mpr (by simpa using h)), if_neg h]
theorem e_isUser5 (a : Int32) : f_X5_isUser a = some (bZ (0 ≤ a ∧ a < nI 12)) := by
  unfold f_X5_isUser
  rw [e_isBelow, Option.bind_some, gp_t bZ01]
  rfl
theorem e_isUser6 (a : Int32) : f_X6_isUser a = some (bZ (0 ≤ a ∧ a < nI 12)) := by
  unfold f_X6_isUser
  rw [e_isIn, Option.bind_some, gp_t bZ01]
  exact congrArg some (bZ_c (and_congr_right fun _ => leP a (n := 12) (by decide)))
theorem e_asNumber (a : Int32) : f_X5_asNumber a = some (bZ (¬ a = 0)) := by
  unfold f_X5_asNumber bZ
  by_cases h : a = 0 <;> simp [h]
