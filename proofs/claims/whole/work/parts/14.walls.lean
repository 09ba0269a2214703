/-! walls and glasses: both sides answer alike -/
def bB (b : Bool) : Int32 := if b = true then 1 else 0
theorem bB0 {b : Bool} : bB b = 0 ↔ b = false := by cases b <;> simp [bB]
theorem bB1 {b : Bool} : bB b = 1 ↔ b = true := by cases b <;> simp [bB]
def Rb (I R : Nat → Int32) (Mi : Nat → Int32) (Ma : Nat → Nat → Int32) : Prop := I 8 = Mi 0 ∧ ∀ u, u < 12 → R u = Ma 1 u
def Rw (WI : Nat → Int32) (WA : Nat → Nat → Int32) (Mi : Nat → Int32) (Ma : Nat → Nat → Int32) (nF nO : Nat) : Prop := nF ≤ 24 ∧ nO ≤ 48 ∧ WI 5 = nI nF ∧ Mi 5 = nI nF ∧ WI 6 = nI nO ∧ Mi 7 = nI nO ∧
  (∀ f, f < nF → WA 0 f = Ma 4 f ∧ (WA 0 f = -1 ∨ ∃ c, c < 8 ∧ WA 0 f = nI c)) ∧
  (∀ c, c < 8 → ∀ i, bI (WA 1 c) i = decide (i < nF ∧ WA 0 i = nI c)) ∧
  (∀ o, o < nO → WA 2 o = Ma 6 o ∧ ∃ f, f < nF ∧ WA 2 o = nI f) ∧
  (∀ u, u < 12 → WA 3 u = Ma 2 u ∧ WA 4 u = Ma 3 u ∧ (∀ i, bI (WA 3 u) i = true → i < nF ∧ ¬ WA 0 i = -1) ∧ (∀ i, bI (WA 4 u) i = true → i < nF ∧ ¬ WA 0 i = -1))
def Rg (GI : Nat → Int32) (GA WA : Nat → Nat → Int32) (Mi : Nat → Int32) (Ma : Nat → Nat → Int32) (nF nG : Nat) : Prop := nG ≤ 40 ∧ GI 4 = nI nG ∧ Mi 12 = nI nG ∧
  ∀ g, g < nG → GA 0 g = Ma 8 g ∧ GA 1 g = Ma 9 g ∧ GA 2 g = Ma 10 g ∧ GA 3 g = Ma 11 g ∧ ∃ f, f < nF ∧ GA 1 g = nI f ∧ ¬ WA 0 f = -1
theorem nm1 {c : Nat} (h : c < 2 ^ 31) : ¬ nI c = -1 := by
  intro z
  have := nI_toInt h
  rw [z] at this
  have h2 : (-1 : Int32).toInt = -1 := by decide
  omega
theorem e_walled {WI : Nat → Int32} {WA : Nat → Nat → Int32} {Mi : Nat → Int32} {Ma : Nat → Nat → Int32} {nF nO N u f : Nat} (Mj : Nat → Nat → Int64) (hN : 250 ≤ N) (h : Rw WI WA Mi Ma nF nO) (hu : u < 12) (hf : f < nF) :
    ∃ b : Bool, f_X4_letRead WI WA (nI u) (nI f) = some (bB b) ∧ f_X6_isWalled N Mi Ma Mj (nI u) (nI f) = some (bB (!b)) ∧ (b = false → ¬ WA 0 f = -1) := by
  obtain ⟨h1, -, -, h4, -, -, h7, h8, -, h10⟩ := h
  obtain ⟨k1, -, k3, -⟩ := h10 u hu
  obtain ⟨f1, f2⟩ := h7 f hf
  unfold f_X4_letRead f_X6_isWalled f_X6_isOpen
  have gf : ∀ k : Option Int32, gd (nI f) 24 k = k := fun k => gd_t (by omega) (by decide)
  have gu : ∀ k : Option Int32, gd (nI u) 12 k = k := fun k => gd_t (by omega) (by decide)
  simp only [gf, gu]
  rw [nI_clamp (by omega), nI_clamp (by omega), ← f1]
  rcases f2 with f2 | ⟨c, hc, f2⟩
  · rw [f2, if_pos rfl, if_neg (by decide), Option.bind_some, if_neg (by decide)]
    exact ⟨true, rfl, rfl, fun z => by cases z⟩
  · rw [f2, if_neg (nm1 (by omega)), if_pos (nI_pos' (by omega)), Option.bind_some, if_pos rfl, e_hasBit _ (by omega), Option.bind_some, ← k1]
    by_cases q : bI (WA 3 u) f = true
    · rw [if_neg (by rw [bZ_t q]; decide), if_pos ((hb_s1 (by omega) _).mpr q)]
      exact ⟨true, rfl, rfl, fun z => by cases z⟩
    · rw [if_pos (bZ_f q), gd_t (j := c) (by omega) (by decide), nI_clamp (by omega), if_neg (fun z => q ((hb_s1 (by omega) _).mp z))]
      have step : ∀ n g, g < nF → f_X6_isWalled_26 N Mi Ma Mj (n + 1) (nI u) (nI f) (nI g) = if bI (WA 3 u) g = true ∧ WA 0 g = nI c then some 1 else f_X6_isWalled_26 N Mi Ma Mj n (nI u) (nI f) (nI (g + 1)) := by
        intro n g hg
        rw [f_X6_isWalled_26, h4, if_neg (nI_ge hg (by omega)), gu, nI_clamp (by omega), ← k1]
        by_cases q1 : bI (WA 3 u) g = true
        · rw [if_pos ((hb_s1 (by omega) _).mpr q1), gd_t (by omega) (by decide), gd_t (by omega) (by decide), nI_clamp (by omega), nI_clamp (by omega), ← f1, ← (h7 g hg).1, f2, xa1]
          by_cases q2 : WA 0 g = nI c
          · rw [if_pos q2, if_pos ⟨q1, q2⟩]
          · rw [if_neg q2, if_neg (fun z => q2 z.2)]
        · rw [if_neg (fun z => q1 ((hb_s1 (by omega) _).mp z)), if_neg (fun z => q1 z.1), xa1]
      have last : ∀ n, f_X6_isWalled_26 N Mi Ma Mj (n + 1) (nI u) (nI f) (nI nF) = some 0 := by
        intro n
        rw [f_X6_isWalled_26, h4, if_pos (nI_le (by omega) (by omega))]
      by_cases q2 : ∃ g, g < nF ∧ bI (WA 3 u) g = true ∧ WA 0 g = nI c
      · have loop : ∀ d g n, g + d = nF → d < n → (∃ z, g ≤ z ∧ z < nF ∧ bI (WA 3 u) z = true ∧ WA 0 z = nI c) → f_X6_isWalled_26 N Mi Ma Mj n (nI u) (nI f) (nI g) = some 1 := by
          intro d
          induction d with
          | zero =>
            rintro g n hg hn ⟨z, z1, z2, -⟩
            omega
          | succ d ih =>
            rintro g n hg hn ⟨z, z1, z2, z3⟩
            obtain ⟨n, rfl⟩ : ∃ k, n = k + 1 := ⟨n - 1, by omega⟩
            rw [step n g (by omega)]
            by_cases q3 : bI (WA 3 u) g = true ∧ WA 0 g = nI c
            · rw [if_pos q3]
            · rw [if_neg q3]
              refine ih (g + 1) n (by omega) (by omega) ⟨z, ?_, z2, z3⟩
              rcases Nat.lt_or_ge g z with y | y
              · omega
              · exact absurd (by rw [show g = z by omega]; exact z3) q3
        obtain ⟨z, z2, z3, z4⟩ := q2
        refine ⟨false, ?_, loop nF 0 N (by omega) (by omega) ⟨z, Nat.zero_le _, z2, z3, z4⟩, fun _ => nm1 (by omega)⟩
        rw [if_neg]
        · rfl
        · intro y
          exact (and_eq0 _ _).mp y z z3 (by rw [h8 c hc]; exact decide_eq_true ⟨z2, z4⟩)
      · have loop : ∀ d g n, g + d = nF → d < n → f_X6_isWalled_26 N Mi Ma Mj n (nI u) (nI f) (nI g) = some 0 := by
          intro d
          induction d with
          | zero =>
            intro g n hg hn
            obtain ⟨n, rfl⟩ : ∃ k, n = k + 1 := ⟨n - 1, by omega⟩
            rw [show g = nF by omega]
            exact last n
          | succ d ih =>
            intro g n hg hn
            obtain ⟨n, rfl⟩ : ∃ k, n = k + 1 := ⟨n - 1, by omega⟩
            rw [step n g (by omega), if_neg (fun y => q2 ⟨g, by omega, y⟩)]
            exact ih (g + 1) n (by omega) (by omega)
        refine ⟨true, ?_, loop nF 0 N (by omega) (by omega), fun z => by cases z⟩
        rw [if_pos]
        · rfl
        · refine (and_eq0 _ _).mpr fun i y1 y2 => ?_
          rw [h8 c hc] at y2
          have y3 := of_decide_eq_true y2
          exact q2 ⟨i, y3.1, y1, y3.2⟩
/-- a glass of his that runs for that firm -/
theorem e_runs {GI : Nat → Int32} {GA WA : Nat → Nat → Int32} {Mi : Nat → Int32} {Ma : Nat → Nat → Int32} {nF nG N : Nat} (Mj : Nat → Nat → Int64) (hN : 250 ≤ N) (h : Rg GI GA WA Mi Ma nF nG) (a b : Int32) :
    ∃ z : Bool, f_X1_anyRuns N GI GA a b (Mi 0) = some (bB z) ∧ f_X6_hasGlass N Mi Ma Mj a b = some (bB z) ∧ (z = true → ∃ f, f < nF ∧ b = nI f ∧ ¬ WA 0 f = -1) := by
  obtain ⟨h1, h2, h3, h4⟩ := h
  have loop : ∀ d g n, g + d = nG → d < n → ∃ z : Bool, f_X1_anyRuns_3 N GI GA n a b (Mi 0) (nI g) = some (bB z) ∧ f_X6_hasGlass_2 N Mi Ma Mj n a b (nI g) = some (bB z) ∧ (z = true → ∃ f, f < nF ∧ b = nI f ∧ ¬ WA 0 f = -1) := by
    intro d
    induction d with
    | zero =>
      intro g n hg hn
      obtain ⟨n, rfl⟩ : ∃ k, n = k + 1 := ⟨n - 1, by omega⟩
      refine ⟨false, ?_, ?_, fun z => by cases z⟩
      · rw [f_X1_anyRuns_3, h2, if_pos (nI_le (by omega) (by omega))]; rfl
      · rw [f_X6_hasGlass_2, h3, if_pos (nI_le (by omega) (by omega))]; rfl
    | succ d ih =>
      intro g n hg hn
      obtain ⟨n, rfl⟩ : ∃ k, n = k + 1 := ⟨n - 1, by omega⟩
      obtain ⟨z, i1, i2, i3⟩ := ih (g + 1) n (by omega) (by omega)
      obtain ⟨g0, g1, g2, -, f, f1, f2, f3⟩ := h4 g (by omega)
      rw [f_X1_anyRuns_3, h2, if_neg (nI_ge (show g < nG by omega) (by omega)), gd_t (by omega) (by decide), nI_clamp (by omega), gd_t (by omega) (by decide), xa1]
      rw [f_X6_hasGlass_2, h3, if_neg (nI_ge (show g < nG by omega) (by omega)), gd_t (by omega) (by decide), nI_clamp (by omega), gd_t (by omega) (by decide), gd_t (by omega) (by decide), xa1, ← g0, ← g1, ← g2]
      unfold f_X1_runs
      rw [gd_t (by omega) (by decide), nI_clamp (by omega)]
      by_cases q0 : GA 0 g = a
      · rw [if_pos q0, if_pos q0]
        by_cases q1 : GA 1 g = b
        · rw [if_pos q1, if_pos q1]
          by_cases q2 : GA 2 g ≤ Mi 0
          · rw [if_pos q2, if_pos q2, Option.bind_some, if_pos rfl]
            exact ⟨z, i1, i2, i3⟩
          · rw [if_neg q2, if_neg q2, Option.bind_some, if_neg (by decide)]
            exact ⟨true, rfl, rfl, fun _ => ⟨f, f1, q1.symm.trans f2, f3⟩⟩
        · rw [if_neg q1, if_neg q1]
          exact ⟨z, i1, i2, i3⟩
      · rw [if_neg q0, if_neg q0]
        exact ⟨z, i1, i2, i3⟩
  exact loop nG 0 N (by omega) (by omega)
theorem e_duties {GI : Nat → Int32} {GA WA : Nat → Nat → Int32} {Mi : Nat → Int32} {Ma : Nat → Nat → Int32} {nF nG N : Nat} (Mj : Nat → Nat → Int64) (hN : 250 ≤ N) (h : Rg GI GA WA Mi Ma nF nG) (a : Int32) :
    ∃ r, f_X1_openDuties N GI GA a = some r ∧ f_X6_duties N Mi Ma Mj a = some r := by
  obtain ⟨h1, h2, h3, h4⟩ := h
  have loop : ∀ d g n x, g + d = nG → d < n → ∃ r, f_X1_openDuties_4 N GI GA n a x (nI g) = some r ∧ f_X6_duties_4 N Mi Ma Mj n a x (nI g) = some r := by
    intro d
    induction d with
    | zero =>
      intro g n x hg hn
      obtain ⟨n, rfl⟩ : ∃ k, n = k + 1 := ⟨n - 1, by omega⟩
      refine ⟨x, ?_, ?_⟩
      · rw [f_X1_openDuties_4, h2, if_pos (nI_le (by omega) (by omega))]
      · rw [f_X6_duties_4, h3, if_pos (nI_le (by omega) (by omega))]
    | succ d ih =>
      intro g n x hg hn
      obtain ⟨n, rfl⟩ : ∃ k, n = k + 1 := ⟨n - 1, by omega⟩
      obtain ⟨g0, g1, g2, g3, -⟩ := h4 g (by omega)
      rw [f_X1_openDuties_4, h2, if_neg (nI_ge (show g < nG by omega) (by omega)), gd_t (by omega) (by decide), nI_clamp (by omega), gd_t (by omega) (by decide), xa1]
      rw [f_X6_duties_4, h3, if_neg (nI_ge (show g < nG by omega) (by omega)), gd_t (by omega) (by decide), nI_clamp (by omega), gd_t (by omega) (by decide), xa1, ← g0, ← g3]
      by_cases q0 : GA 0 g = a
      · rw [if_pos q0, if_pos q0]
        by_cases q1 : GA 3 g = 0
        · rw [if_pos q1, if_pos q1]
          exact ih (g + 1) n x (by omega) (by omega)
        · rw [if_neg q1, if_neg q1]
          exact ih (g + 1) n (x + 1) (by omega) (by omega)
      · rw [if_neg q0, if_neg q0]
        exact ih (g + 1) n x (by omega) (by omega)
  exact loop nG 0 N 0 (by omega) (by omega)
theorem e_late {GI : Nat → Int32} {GA WA : Nat → Nat → Int32} {Mi : Nat → Int32} {Ma : Nat → Nat → Int32} {nF nG N : Nat} (Mj : Nat → Nat → Int64) (hN : 250 ≤ N) (h : Rg GI GA WA Mi Ma nF nG) (a : Int32) :
    ∃ r, f_X1_anyDue N GI GA a (Mi 0) = some r ∧ f_X6_isLate N Mi Ma Mj a = some r := by
  obtain ⟨h1, h2, h3, h4⟩ := h
  have loop : ∀ d g n, g + d = nG → d < n → ∃ r, f_X1_anyDue_2 N GI GA n a (Mi 0) (nI g) = some r ∧ f_X6_isLate_2 N Mi Ma Mj n a (nI g) = some r := by
    intro d
    induction d with
    | zero =>
      intro g n hg hn
      obtain ⟨n, rfl⟩ : ∃ k, n = k + 1 := ⟨n - 1, by omega⟩
      refine ⟨0, ?_, ?_⟩
      · rw [f_X1_anyDue_2, h2, if_pos (nI_le (by omega) (by omega))]
      · rw [f_X6_isLate_2, h3, if_pos (nI_le (by omega) (by omega))]
    | succ d ih =>
      intro g n hg hn
      obtain ⟨n, rfl⟩ : ∃ k, n = k + 1 := ⟨n - 1, by omega⟩
      obtain ⟨g0, g1, g2, g3, -⟩ := h4 g (by omega)
      rw [f_X1_anyDue_2, h2, if_neg (nI_ge (show g < nG by omega) (by omega)), gd_t (by omega) (by decide), nI_clamp (by omega), gd_t (by omega) (by decide), xa1]
      rw [f_X6_isLate_2, h3, if_neg (nI_ge (show g < nG by omega) (by omega)), gd_t (by omega) (by decide), nI_clamp (by omega), gd_t (by omega) (by decide), gd_t (by omega) (by decide), xa1, ← g0, ← g3, ← g2]
      unfold f_X1_due
      rw [gd_t (by omega) (by decide), nI_clamp (by omega), Option.bind_some]
      by_cases q0 : GA 0 g = a
      · rw [if_pos q0, if_pos q0]
        by_cases q1 : GA 3 g = 0
        · rw [if_pos q1, if_pos q1]
          exact ih (g + 1) n (by omega) (by omega)
        · rw [if_neg q1, if_neg q1]
          by_cases q2 : Mi 0 < GA 2 g + 100
          · rw [if_pos q2, if_pos q2]
            exact ih (g + 1) n (by omega) (by omega)
          · rw [if_neg q2, if_neg q2]
            exact ⟨1, rfl, rfl⟩
      · rw [if_neg q0, if_neg q0]
        exact ih (g + 1) n (by omega) (by omega)
  exact loop nG 0 N (by omega) (by omega)
