/-! perform on both sides -/
/-- why a task may not be done, the record and the rest of the case not looked at: 0 if it may -/
def whyP (T m a u : Nat) (D : Nat → Int32) (x rl : Int32) (r : Nat) (P Q : Nat → Int32) : Int32 :=
  if ¬ D a = -1 then -16 else if anyB (qE D x) T = true then -17 else if ¬ bI rl r = true then -18 else if anyB (qA D P a u) T = true then -19 else if anyB (qO D Q a u) T = true then -20 else if cnt (fun t => decide (D t = nI u)) T < m then 0 else -21
theorem e_verdict {N T m a u r : Nat} (hN : 70 ≤ N) (hT : T ≤ 6) (hm : m ≤ 6) (ha : a < T) (hu : u < 12) (hr8 : r < 8) {D ki RL : Nat → Int32} {ka : Nat → Nat → Int32} {P Q : Nat → Int32} (h4 : ki 4 = nI T) (h5 : ki 5 = nI m) (hr : ka 0 a = nI r) (hb : ∀ i, bI (ka 1 a) i = true → i < a) (p2 : PM (ka 2) P T) (p3 : PM (ka 3) Q T) :
    f_X0_verdict N D ki ka RL (nI a) (nI u) = if whyP T m a u D (ka 1 a) (RL u) r P Q = 0 then (f_X0_wouldStick N D ki ka RL (nI a) (nI u)).bind (fun x30 => (if x30.1 = 0 then some (0, x30.2.1, x30.2.2.1, x30.2.2.2.1, x30.2.2.2.2) else some ((-22), x30.2.1, x30.2.2.1, x30.2.2.2.1, x30.2.2.2.2))) else some (whyP T m a u D (ka 1 a) (RL u) r P Q, D, ki, ka, RL) := by
  unfold f_X0_verdict f_X2_taskBits
  have h64 : 2 ^ T ≤ 64 := show 2 ^ T ≤ 2 ^ 6 from Nat.pow_le_pow_right (by decide) hT
  have e1 : ((1 : Int32) <<< (nI T &&& 31)) - 1 = nI (2 ^ T - 1) := by
    rw [shl1N (by omega)]
    exact pk_sub (a := 2 ^ T) (b := 1) (Nat.one_le_two_pow)
  have hl := msk_64 (fun t => decide (D t = -1)) hT
  have ho := msk_64 (fun t => decide (D t = nI u)) hT
  rw [e_left (by omega) hT D ka RL h4, e_bits (by omega) hT D ka RL h4, h4, e1, h5]
  simp only [Option.bind_some]
  obtain ⟨dn, hdn⟩ : ∃ dn, nI (2 ^ T - 1) &&& (nI (msk (fun t => decide (D t = -1)) T) ^^^ (-1)) = dn := ⟨_, rfl⟩
  have hbit : ∀ i, bI dn i = (decide (i < T) && !decide (D i = -1)) := by
    intro i
    rw [← hdn, bI_and, bI_nI (by omega), Nat.testBit_two_pow_sub_one, bI_not, bI_nI (by omega), msk_bit]
    by_cases z : i < T
    · rw [decide_eq_true z, decide_eq_true (show i < 32 by omega)]; simp
    · simp [z]
  have hown : ∀ i, (msk (fun t => decide (D t = nI u)) T).testBit i = true ↔ i < T ∧ D i = nI u := fun i => by rw [msk_bit]; simp
  rw [hdn, e_hasBit dn (show a < 32 by omega)]
  simp only [hr, e_hasBit (RL u) (show r < 32 by omega), e_pop _ ho, pop_msk _ hT, Option.bind_some, gd_t (show a < 6 by omega) (show (6 : Nat) < 2 ^ 31 by decide), gd_t hu (show (12 : Nat) < 2 ^ 31 by decide), nI_clamp (show a < 2 ^ 31 by omega), nI_clamp (show u < 2 ^ 31 by omega)]
  have f17 : (ka 1 a) &&& (dn ^^^ (-1)) = 0 ↔ anyB (qE D (ka 1 a)) T = false := by
    rw [and_eq0, anyB_f]
    constructor
    · intro h i hi
      unfold qE
      by_cases z : bI (ka 1 a) i = true
      · have h1 : ¬ bI (dn ^^^ (-1)) i = true := fun y => h i z y
        rw [bI_not, hbit, decide_eq_true (show i < 32 by omega), decide_eq_true hi] at h1
        rw [z]
        simpa using h1
      · rw [Bool.eq_false_iff.mpr z]; rfl
    · intro h i h1 h2
      have hi := hb i h1
      have h3 := h i (by omega)
      unfold qE at h3
      rw [h1, Bool.true_and] at h3
      rw [bI_not, hbit, decide_eq_true (show i < T by omega), h3] at h2
      simp at h2
  have f19 : (ka 2 a) &&& nI (msk (fun t => decide (D t = nI u)) T) = 0 ↔ anyB (qA D P a u) T = false := by
    rw [and_sub0 _ ho, anyB_f]
    constructor
    · intro h i hi
      unfold qA
      by_cases z : i = a
      · rw [decide_eq_true z]; rfl
      · rw [← PM_pr p2 (by omega) (by omega) z] 
        by_cases z2 : D i = nI u
        · by_cases z3 : bI (ka 2 a) i = true
          · exact (h i z3 ((hown i).mpr ⟨hi, z2⟩)).elim
          · rw [Bool.eq_false_iff.mpr z3, Bool.and_false]
        · rw [decide_eq_false z2, Bool.and_false, Bool.false_and]
    · intro h i h1 h2
      obtain ⟨hi, h3⟩ := (hown i).mp h2
      have hne := (p2.2 a i (by omega) h1).2.2
      have h4 := h i hi
      unfold qA at h4
      rw [← PM_pr p2 (by omega) (by omega) hne, h1, decide_eq_true h3, decide_eq_false hne] at h4
      cases h4
  have f20 : ((ka 3 a) &&& dn) &&& (nI (msk (fun t => decide (D t = nI u)) T) ^^^ (-1)) = 0 ↔ anyB (qO D Q a u) T = false := by
    rw [and_not0 _ ho, anyB_f]
    constructor
    · intro h i hi
      unfold qO
      by_cases z : i = a
      · rw [decide_eq_true z]; rfl
      · rw [← PM_pr p3 (by omega) (by omega) z]
        by_cases z2 : D i = nI u
        · rw [decide_eq_true z2]; simp
        · by_cases z3 : D i = -1
          · rw [decide_eq_true z3]; simp
          · by_cases z4 : bI (ka 3 a) i = true
            · refine absurd ((hown i).mp (h i ?_)).2 z2
              rw [bI_and, z4, hbit, decide_eq_true hi, decide_eq_false z3]; rfl
            · rw [Bool.eq_false_iff.mpr z4, Bool.and_false]
    · intro h i h1
      rw [bI_and, hbit] at h1
      obtain ⟨h2, h3⟩ := Bool.and_eq_true_iff.mp h1
      obtain ⟨h5, h6⟩ := Bool.and_eq_true_iff.mp h3
      have hi := of_decide_eq_true h5
      have hne := (p3.2 a i (by omega) h2).2.2
      have h4 := h i hi
      unfold qO at h4
      rw [← PM_pr p3 (by omega) (by omega) hne, h2, h6, decide_eq_false hne] at h4
      refine (hown i).mpr ⟨hi, ?_⟩
      simpa using h4
  unfold whyP
  have hba : (bI dn a = true) ↔ ¬ D a = -1 := by rw [hbit, decide_eq_true ha]; simp
  have w1 : ∀ c : Prop, c → ¬ ¬ c := fun c h z => z h
  by_cases c1 : D a = -1
  · have v1 : ¬ ¬ D a = -1 := w1 _ c1
    have g1 : bZ (bI dn a = true) = 0 := bZ_f (fun z => hba.mp z c1)
    simp only [if_neg v1, if_pos g1]
    by_cases c2 : anyB (qE D (ka 1 a)) T = true
    · have g2 : ¬ (ka 1 a) &&& (dn ^^^ (-1)) = 0 := fun z => by rw [f17.mp z] at c2; cases c2
      simp only [if_neg g2, if_pos c2, if_neg (show ¬ (-17 : Int32) = 0 by decide)]
    · have g2 : (ka 1 a) &&& (dn ^^^ (-1)) = 0 := f17.mpr (by simpa using c2)
      simp only [if_pos g2, if_neg c2]
      by_cases c3 : bI (RL u) r = true
      · have v3 : ¬ ¬ bI (RL u) r = true := w1 _ c3
        have g3 : ¬ bZ (bI (RL u) r = true) = 0 := by rw [bZ_t c3]; decide
        simp only [if_neg g3, if_neg v3]
        by_cases c4 : anyB (qA D P a u) T = true
        · have g4 : ¬ (ka 2 a) &&& nI (msk (fun t => decide (D t = nI u)) T) = 0 := fun z => by rw [f19.mp z] at c4; cases c4
          simp only [if_neg g4, if_pos c4, if_neg (show ¬ (-19 : Int32) = 0 by decide)]
        · have g4 : (ka 2 a) &&& nI (msk (fun t => decide (D t = nI u)) T) = 0 := f19.mpr (by simpa using c4)
          simp only [if_pos g4, if_neg c4]
          by_cases c5 : anyB (qO D Q a u) T = true
          · have g5 : ¬ ((ka 3 a) &&& dn) &&& (nI (msk (fun t => decide (D t = nI u)) T) ^^^ (-1)) = 0 := fun z => by rw [f20.mp z] at c5; cases c5
            simp only [if_neg g5, if_pos c5, if_neg (show ¬ (-20 : Int32) = 0 by decide)]
          · have g5 : ((ka 3 a) &&& dn) &&& (nI (msk (fun t => decide (D t = nI u)) T) ^^^ (-1)) = 0 := f20.mpr (by simpa using c5)
            simp only [if_pos g5, if_neg c5]
            have hcl := cnt_le (fun t => decide (D t = nI u)) T
            by_cases c6 : cnt (fun t => decide (D t = nI u)) T < m
            · have g6 : nI (cnt (fun t => decide (D t = nI u)) T) < nI m := nI_lt c6 (by omega)
              simp only [if_pos g6, if_pos c6, if_true]
            · have g6 : ¬ nI (cnt (fun t => decide (D t = nI u)) T) < nI m := nI_nlt (by omega) (by omega)
              simp only [if_neg g6, if_neg c6, if_neg (show ¬ (-21 : Int32) = 0 by decide)]
      · have g3 : bZ (bI (RL u) r = true) = 0 := bZ_f c3
        simp only [if_pos g3, if_pos c3, if_neg (show ¬ (-18 : Int32) = 0 by decide)]
  · have g1 : ¬ bZ (bI dn a = true) = 0 := by rw [bZ_t (hba.mpr c1)]; decide
    simp only [if_neg g1, if_pos c1, if_neg (show ¬ (-16 : Int32) = 0 by decide)]
