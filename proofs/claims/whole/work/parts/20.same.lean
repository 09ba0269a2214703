/-! both searches find the same: sets user by user, users task by task -/
theorem or_add : ∀ a, a < 64 → ∀ b, b < 64 → a &&& b = 0 → a ||| b = a + b := by decide +kernel
def sel (S : Nat) (f : Nat → Nat) (u : Nat) : Nat := msk (fun i => S.testBit i && decide (f i = u)) 6
theorem sel_bit {S : Nat} (hS : S < 64) (f : Nat → Nat) (u i : Nat) : (sel S f u).testBit i = (S.testBit i && decide (f i = u)) := by
  unfold sel
  rw [msk_bit]
  by_cases h : S.testBit i = true
  · have := tb_lt (n := 6) hS h
    simp [this]
  · simp [Bool.eq_false_iff.mpr h]
theorem sel_64 (S : Nat) (f : Nat → Nat) (u : Nat) : sel S f u < 64 := msk_64 _ (Nat.le_refl 6)
theorem RS_iff (ok : Nat → Nat → Prop) : ∀ n S, S < 64 → (RS ok n S ↔ ∃ f : Nat → Nat, (∀ i, S.testBit i = true → f i < n) ∧ ∀ u, u < n → ok u (sel S f u)) := by
  intro n
  induction n with
  | zero =>
    intro S hS
    constructor
    · intro h
      have h : S = 0 := h
      subst h
      exact ⟨fun _ => 0, fun i hi => (by rw [Nat.zero_testBit] at hi; cases hi), fun u hu => (by omega)⟩
    · rintro ⟨f, h, -⟩
      show S = 0
      apply Nat.eq_of_testBit_eq
      intro i
      rw [Nat.zero_testBit]
      by_cases q : S.testBit i = true
      · have := h i q; omega
      · simpa using q
  | succ n ih =>
    intro S hS
    constructor
    · rintro ⟨L, l1, l2, l3, l4⟩
      obtain ⟨f, f1, f2⟩ := (ih (S - L) (by omega)).mp l4
      have e : S = (S - L) ||| L := by rw [or_add _ (by omega) _ (by omega) l3]; omega
      have eb : ∀ i, S.testBit i = ((S - L).testBit i || L.testBit i) := fun i => by
        have := congrArg (fun x => x.testBit i) e
        rw [Nat.testBit_or] at this
        exact this
      have ed : ∀ i, (S - L).testBit i = true → L.testBit i = true → False := fun i h1 h2 => by
        have := congrArg (fun x => x.testBit i) l3
        rw [Nat.testBit_and, Nat.zero_testBit, h1, h2] at this
        cases this
      refine ⟨fun i => if L.testBit i = true then n else f i, fun i hi => ?_, fun u hu => ?_⟩
      · show (if L.testBit i = true then n else f i) < n + 1
        by_cases q : L.testBit i = true
        · rw [if_pos q]; omega
        · rw [if_neg q]
          rw [eb, Bool.eq_false_iff.mpr q, Bool.or_false] at hi
          have := f1 i hi
          omega
      · by_cases z : u = n
        · subst z
          have e2 : sel S (fun i => if L.testBit i = true then u else f i) u = L := by
            apply Nat.eq_of_testBit_eq
            intro i
            rw [sel_bit hS]
            by_cases q : L.testBit i = true
            · rw [eb i]; simp [q]
            · by_cases q2 : (S - L).testBit i = true
              · have := f1 i q2
                have h3 : ¬ f i = u := by omega
                simp [q, h3]
              · rw [eb i, Bool.eq_false_iff.mpr q, Bool.eq_false_iff.mpr q2]; rfl
          rw [e2]; exact l1
        · have e2 : sel S (fun i => if L.testBit i = true then n else f i) u = sel (S - L) f u := by
            apply Nat.eq_of_testBit_eq
            intro i
            rw [sel_bit hS, sel_bit (show S - L < 64 by omega)]
            by_cases q : L.testBit i = true
            · have h1 : (S - L).testBit i = false := Bool.eq_false_iff.mpr fun h => ed i h q
              rw [h1, if_pos q, decide_eq_false (show ¬ n = u from fun h => z h.symm)]
              simp
            · rw [eb i, Bool.eq_false_iff.mpr q, Bool.or_false, if_neg (by simp)]
          rw [e2]; exact f2 u (by omega)
    · rintro ⟨f, f1, f2⟩
      have hR : msk (fun i => S.testBit i && !decide (f i = n)) 6 < 64 := msk_64 _ (Nat.le_refl 6)
      have hRb : ∀ i, (msk (fun i => S.testBit i && !decide (f i = n)) 6).testBit i = (S.testBit i && !decide (f i = n)) := by
        intro i
        rw [msk_bit]
        by_cases h : S.testBit i = true
        · have := tb_lt (n := 6) hS h
          simp [this]
        · simp [Bool.eq_false_iff.mpr h]
      have e0 : (msk (fun i => S.testBit i && !decide (f i = n)) 6) &&& sel S f n = 0 := by
        apply Nat.eq_of_testBit_eq
        intro i
        rw [Nat.testBit_and, hRb, sel_bit hS, Nat.zero_testBit]
        by_cases h : f i = n <;> simp [h]
      have e1 : (msk (fun i => S.testBit i && !decide (f i = n)) 6) ||| sel S f n = S := by
        apply Nat.eq_of_testBit_eq
        intro i
        rw [Nat.testBit_or, hRb, sel_bit hS]
        by_cases h : f i = n <;> simp [h]
      have e2 := or_add _ hR _ (sel_64 S f n) e0
      rw [e1] at e2
      have e3 : S - sel S f n = msk (fun i => S.testBit i && !decide (f i = n)) 6 := by omega
      refine ⟨sel S f n, f2 n (by omega), by omega, by rw [e3]; exact e0, ?_⟩
      rw [e3]
      refine (ih _ hR).mpr ⟨f, fun i hi => ?_, fun u hu => ?_⟩
      · rw [hRb] at hi
        obtain ⟨h1, h2⟩ := Bool.and_eq_true_iff.mp hi
        have h3 := f1 i h1
        have h4 : ¬ f i = n := by simpa using h2
        omega
      · have e4 : sel (msk (fun i => S.testBit i && !decide (f i = n)) 6) f u = sel S f u := by
          apply Nat.eq_of_testBit_eq
          intro i
          rw [sel_bit hR, sel_bit hS, hRb]
          by_cases h : f i = u
          · have : ¬ f i = n := by omega
            simp [this]
          · simp [h]
        rw [e4]; exact f2 u (by omega)
theorem tn_if : ∀ b : Bool, b.toNat = if b = true then 1 else 0 := by decide
theorem pop_msk (q : Nat → Bool) {T : Nat} (hT : T ≤ 6) : pop (msk q T) = cnt q T := by
  rcases (show T = 0 ∨ T = 1 ∨ T = 2 ∨ T = 3 ∨ T = 4 ∨ T = 5 ∨ T = 6 by omega) with rfl | rfl | rfl | rfl | rfl | rfl | rfl <;> (simp only [pop, msk_bit]; simp [cnt, tn_if])
theorem cnt_all {s : Nat → Nat} {m T : Nat} (h : ∀ i, i < T → cnt (fun t => decide (s t = s i)) (i + 1) ≤ m) (u : Nat) : ∀ j, j ≤ T → cnt (fun t => decide (s t = u)) j ≤ m := by
  intro j
  induction j with
  | zero => intro _; exact Nat.zero_le m
  | succ j ih =>
    intro hj
    by_cases q : s j = u
    · have := h j (by omega)
      rw [q] at this
      exact this
    · rw [cnt, if_neg (by simpa using q)]
      exact ih (by omega)
theorem and_sub0 (x : Int32) {S : Nat} (hS : S < 64) : x &&& nI S = 0 ↔ ∀ i, bI x i = true → S.testBit i = true → False := by
  rw [and_eq0]
  exact ⟨fun h i h1 h2 => h i h1 (by rw [bI_nI (by omega)]; exact h2), fun h i h1 h2 => h i h1 (by rw [bI_nI (by omega)] at h2; exact h2)⟩
theorem and_not0 (x : Int32) {S : Nat} (hS : S < 64) : x &&& (nI S ^^^ (-1)) = 0 ↔ ∀ i, bI x i = true → S.testBit i = true := by
  rw [and_eq0]
  constructor
  · intro h i h1
    by_cases q : S.testBit i = true
    · exact q
    · refine (h i h1 ?_).elim
      rw [bI_not, bI_nI (by omega), decide_eq_true (bI_lt h1)]
      simpa using q
  · intro h i h1 h2
    rw [bI_not, bI_nI (by omega), h i h1] at h2
    simp at h2
/-- what one user does, in the words of users for tasks -/
theorem al_iff {T m : Nat} (hT : T ≤ 6) {KA : Nat → Nat → Int32} {P Q : Nat → Int32} (hA : PM (KA 2) P T) (hB : PM (KA 3) Q T) (s : Nat → Nat) (hs : ∀ i, i < T → s i < 12) :
    (∀ u, u < 12 → AL T m KA (msk (fun i => decide (s i = u)) T)) ↔ ∀ i, i < T → FtP m P Q s i := by
  have hb : ∀ u i, (msk (fun i => decide (s i = u)) T).testBit i = true ↔ i < T ∧ s i = u := fun u i => by
    rw [msk_bit]; simp
  constructor
  · intro h i hi
    have hu := h (s i) (hs i hi)
    refine ⟨fun t ht => ⟨fun hp he => ?_, fun hq => ?_⟩, ?_⟩
    · have h1 := (hu.2 t (by omega) ((hb _ _).mpr ⟨by omega, he⟩)).1
      have h2 : bI (KA 2 t) i = true := by rw [(hA.1 t i ht (by omega)).1]; simpa using hp
      exact (and_sub0 _ (msk_64 _ hT)).mp h1 i h2 ((hb _ _).mpr ⟨hi, rfl⟩)
    · have h1 := ((h (s t) (hs t (by omega))).2 t (by omega) ((hb _ _).mpr ⟨by omega, rfl⟩)).2
      have h2 : bI (KA 3 t) i = true := by rw [(hB.1 t i ht (by omega)).1]; simpa using hq
      exact ((hb _ _).mp ((and_not0 _ (msk_64 _ hT)).mp h1 i h2)).2.symm
    · have h1 := hu.1
      rw [pop_msk _ hT] at h1
      exact Nat.le_trans (cnt_mono _ (by omega)) h1
  · intro h u hu
    refine ⟨?_, fun t ht htb => ?_⟩
    · rw [pop_msk _ hT]
      exact cnt_all (fun i hi => (h i hi).2) u T (Nat.le_refl T)
    · have htu := ((hb _ _).mp htb).2
      refine ⟨(and_sub0 _ (msk_64 _ hT)).mpr fun i h1 h2 => ?_, (and_not0 _ (msk_64 _ hT)).mpr fun i h1 => ?_⟩
      · obtain ⟨hi, hiu⟩ := (hb _ _).mp h2
        obtain ⟨-, -, hne⟩ := hA.2 t i (by omega) h1
        rcases Nat.lt_or_ge t i with q | q
        · rw [(hA.1 t i q (by omega)).1] at h1
          exact ((h i hi).1 t q).1 (by simpa using h1) (by rw [htu, hiu])
        · have q : i < t := by omega
          rw [(hA.1 i t q (by omega)).2, (hA.1 i t q (by omega)).1] at h1
          exact ((h t ht).1 i q).1 (by simpa using h1) (by rw [htu, hiu])
      · obtain ⟨hi, -, hne⟩ := hB.2 t i (by omega) h1
        refine (hb _ _).mpr ⟨hi, ?_⟩
        rcases Nat.lt_or_ge t i with q | q
        · rw [(hB.1 t i q (by omega)).1] at h1
          rw [← htu]; exact (((h i hi).1 t q).2 (by simpa using h1)).symm
        · have q : i < t := by omega
          rw [(hB.1 i t q (by omega)).2, (hB.1 i t q (by omega)).1] at h1
          rw [← htu]; exact ((h t ht).1 i q).2 (by simpa using h1)
/-- a case can end: the same on both sides -/
theorem e_same {T m : Nat} (hT : T ≤ 6) {D : Nat → Int32} (hD : ∀ t, t < 6 → D t = -1 ∨ ∃ u, u < 12 ∧ D t = nI u) {KA : Nat → Nat → Int32} {RL : Nat → Int32} {P Q : Nat → Int32} (hA : PM (KA 2) P T) (hB : PM (KA 3) Q T) :
    RS (okU T m D KA RL) 12 (msk (fun t => decide (D t = -1)) T) ↔ ∃ s, SolP T m D (fun t u => rol KA (RL u) t) P Q s := by
  have hl : msk (fun t => decide (D t = -1)) T < 64 := msk_64 _ hT
  have hlb : ∀ i, (msk (fun t => decide (D t = -1)) T).testBit i = true ↔ i < T ∧ D i = -1 := fun i => by rw [msk_bit]; simp
  have join : ∀ (s : Nat → Nat) (f : Nat → Nat), (∀ i, i < T → s i < 12) → (∀ i, i < T → D i = -1 → s i = f i) → (∀ i, i < T → ¬ D i = -1 → D i = nI (s i)) → ∀ u, u < 12 → msk (fun t => decide (D t = nI u)) T ||| sel (msk (fun t => decide (D t = -1)) T) f u = msk (fun i => decide (s i = u)) T := by
    intro s f h0 h1 h2 u hu
    apply Nat.eq_of_testBit_eq
    intro i
    rw [Nat.testBit_or, sel_bit hl, msk_bit, msk_bit, msk_bit]
    by_cases hi : i < T
    · by_cases q : D i = -1
      · have hne : ¬ (-1 : Int32) = nI u := fun z => nm1 (by omega) z.symm
        simp [hi, q, h1 i hi q, hne]
      · have e : D i = nI u ↔ s i = u := by
          rw [h2 i hi q]
          exact nI_eq (by have := h0 i hi; omega) (by omega)
        simp [hi, q, e]
    · simp [hi]
  rw [RS_iff _ 12 _ hl]
  constructor
  · rintro ⟨f, f1, f2⟩
    obtain ⟨s, s1, s2⟩ : ∃ s : Nat → Nat, (∀ i, i < T → D i = -1 → s i = f i) ∧ (∀ i, i < T → ¬ D i = -1 → s i < 12 ∧ D i = nI (s i)) := by
      refine ⟨fun i => if D i = -1 then f i else (D i).toNatClampNeg, fun i _ h => if_pos h, fun i hi h => ?_⟩
      obtain ⟨u, u1, u2⟩ := (hD i (by omega)).resolve_left h
      have e : (if D i = -1 then f i else (D i).toNatClampNeg) = u := by rw [if_neg h, u2, nI_clamp (by omega)]
      show (if D i = -1 then f i else (D i).toNatClampNeg) < 12 ∧ D i = nI (if D i = -1 then f i else (D i).toNatClampNeg)
      rw [e]
      exact ⟨u1, u2⟩
    have s12 : ∀ i, i < T → s i < 12 := by
      intro i hi
      by_cases q : D i = -1
      · rw [s1 i hi q]; exact f1 i ((hlb i).mpr ⟨hi, q⟩)
      · exact (s2 i hi q).1
    have hft := (al_iff (m := m) hT hA hB s s12).mp (fun u hu => by
      have := (f2 u hu).2
      rw [join s f s12 s1 (fun i hi h => (s2 i hi h).2) u hu] at this
      exact this)
    refine ⟨s, fun i hi => ⟨⟨s12 i hi, fun q => ?_, fun q => (s2 i hi q).2⟩, hft i hi⟩⟩
    have h1 := (f2 (s i) (s12 i hi)).1 i (by rw [sel_bit hl, (hlb i).mpr ⟨hi, q⟩, s1 i hi q]; simp)
    rw [Nat.testBit_and, msk_bit, msk_bit] at h1
    simp only [Bool.and_eq_true] at h1
    exact h1.2.2
  · rintro ⟨s, hs⟩
    have s12 : ∀ i, i < T → s i < 12 := fun i hi => (hs i hi).1.1
    have hal := (al_iff (m := m) hT hA hB s s12).mpr (fun i hi => (hs i hi).2)
    refine ⟨s, fun i hi => s12 i ((hlb i).mp hi).1, fun u hu => ⟨fun i hi => ?_, ?_⟩⟩
    · rw [sel_bit hl] at hi
      obtain ⟨h1, h2⟩ := Bool.and_eq_true_iff.mp hi
      obtain ⟨h3, h4⟩ := (hlb i).mp h1
      have h5 := of_decide_eq_true h2
      rw [Nat.testBit_and, h1, msk_bit, decide_eq_true h3, ← h5]
      simpa using (hs i h3).1.2.1 h4
    · rw [join s s s12 (fun _ _ _ => rfl) (fun i hi q => (hs i hi).1.2.2 q) u hu]
      exact hal u hu
