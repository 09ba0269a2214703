/-! the reference's search: users tried task by task -/
/-- who may do task i: a user below 12 with its role, or the one who did it -/
def CdD (D : Nat → Int32) (rl : Nat → Nat → Bool) (i u : Nat) : Prop := u < 12 ∧ (D i = -1 → rl i u = true) ∧ (¬ D i = -1 → D i = nI u)
/-- how many of the first j are so -/
def cnt (q : Nat → Bool) : Nat → Nat
  | 0 => 0
  | j + 1 => cnt q j + (if q j = true then 1 else 0)
theorem cnt_le (q : Nat → Bool) (j : Nat) : cnt q j ≤ j := by
  induction j with
  | zero => exact Nat.le_refl 0
  | succ j ih => rw [cnt]; split <;> omega
theorem cnt_c {q q' : Nat → Bool} {j : Nat} (h : ∀ i, i < j → q i = q' i) : cnt q j = cnt q' j := by
  induction j with
  | zero => rfl
  | succ j ih => rw [cnt, cnt, ih (fun i hi => h i (by omega)), h j (by omega)]
theorem cnt_mono (q : Nat → Bool) {j k : Nat} (h : j ≤ k) : cnt q j ≤ cnt q k := by
  induction k with
  | zero => rw [Nat.le_zero.mp h]; exact Nat.le_refl _
  | succ k ih =>
    rcases Nat.lt_or_ge k j with z | z
    · rw [show j = k + 1 by omega]; exact Nat.le_refl _
    · exact Nat.le_trans (ih z) (by rw [cnt]; omega)
/-- task i goes with those before it -/
def FtP (m : Nat) (P Q : Nat → Int32) (s : Nat → Nat) (i : Nat) : Prop := (∀ t, t < i → (¬ P (6 * t + i) = 0 → ¬ s t = s i) ∧ (¬ Q (6 * t + i) = 0 → s t = s i)) ∧ cnt (fun t => decide (s t = s i)) (i + 1) ≤ m
theorem FtP_c {m : Nat} {P Q : Nat → Int32} {s s' : Nat → Nat} {i : Nat} (h : ∀ t, t ≤ i → s t = s' t) : FtP m P Q s i → FtP m P Q s' i := by
  rintro ⟨h1, h2⟩
  refine ⟨fun t ht => ?_, ?_⟩
  · rw [← h t (by omega), ← h i (Nat.le_refl i)]; exact h1 t ht
  · rw [← h i (Nat.le_refl i), ← cnt_c (q := fun t => decide (s t = s i)) (fun t ht => by rw [h t (by omega)])]
    exact h2
/-- users for all tasks, so that the case ends -/
def SolP (T m : Nat) (D : Nat → Int32) (rl : Nat → Nat → Bool) (P Q : Nat → Int32) (s : Nat → Nat) : Prop := ∀ i, i < T → CdD D rl i (s i) ∧ FtP m P Q s i
theorem aSW (A : Nat → Nat → Int32) (g : Nat → Int32) (i : Nat) (x : Int32) : aS (aW A 26 g) 26 i x = aW A 26 (upd g i x) := by
  funext j
  unfold aS aW
  by_cases h : j = 26 <;> simp [h]
theorem aW_n (A : Nat → Nat → Int32) (g : Nat → Int32) {k j : Nat} (h : ¬ j = k) : aW A k g j = A j := by
  unfold aW; rw [if_neg h]
theorem aWW (A : Nat → Nat → Int32) (g g' : Nat → Int32) (k : Nat) : aW (aW A k g) k g' = aW A k g' := by
  funext j
  unfold aW
  by_cases h : j = k <;> simp [h]
theorem aW_self (A : Nat → Nat → Int32) (k : Nat) : aW A k (A k) = A := by
  funext j
  unfold aW
  by_cases h : j = k <;> simp [h]
theorem iMin_nI {a b : Nat} (ha : a < 2 ^ 31) (hb : b < 2 ^ 31) : iMin (nI a) (nI b) = nI (if a ≤ b then a else b) := by
  unfold iMin
  by_cases h : b < a
  · rw [if_pos (nI_lt h ha), if_neg (Nat.not_le.mpr h)]
  · rw [if_neg (nI_nlt (Nat.not_lt.mp h) hb), if_pos (Nat.not_lt.mp h)]
theorem iMax_nI {a b : Nat} (ha : a < 2 ^ 31) (hb : b < 2 ^ 31) : iMax (nI a) (nI b) = nI (if a ≤ b then b else a) := by
  unfold iMax
  by_cases h : a < b
  · rw [if_pos (nI_lt h hb), if_pos (Nat.le_of_lt h)]
  · rw [if_neg (nI_nlt (Nat.not_lt.mp h) ha)]
    by_cases h2 : a = b
    · rw [if_pos (by omega), h2]
    · rw [if_neg (by omega)]
theorem e_pair {k a b : Nat} (hk : k < 4) (ha : a < 6) (hb : b < 6) : f_X6_pair (nI k) (nI a) (nI b) = some (nI (36 * k + (6 * (if a ≤ b then a else b) + (if a ≤ b then b else a)))) := by
  unfold f_X6_pair
  rw [iMin_nI (by omega) (by omega), iMax_nI (by omega) (by omega), show (36 : Int32) = nI 36 from rfl, show (6 : Int32) = nI 6 from rfl, pk_mul, pk_mul, nI_add, nI_add, Nat.add_assoc]
theorem e_pairL {k a b : Nat} (hk : k < 4) (hab : a < b) (hb : b < 6) : f_X6_pair (nI k) (nI a) (nI b) = some (nI (36 * k + (6 * a + b))) := by
  rw [e_pair hk (by omega) hb, if_pos (by omega), if_pos (by omega)]
/-- isFit -/
theorem e_isFit {N T m k t : Nat} (hN : 10 ≤ N) (hT : T ≤ 6) (hm : m ≤ 6) (hk : k < 4) (ht : t < T) (I : Nat → Int32) (A : Nat → Nat → Int32) (J : Nat → Nat → Int64) (g : Nat → Int32) (p : Nat → Nat) (h18 : A 18 k = nI m) (hp : ∀ i, i ≤ t → p i < 12 ∧ g i = nI (p i)) :
    ∃ b : Bool, f_X6_isFit N I (aW A 26 g) J (nI k) (nI t) = some (bB b) ∧ (b = true ↔ FtP m (fun q => A 16 (36 * k + q)) (fun q => A 17 (36 * k + q)) p t) := by
  have eqv : ∀ i, i ≤ t → (g i = g t ↔ p i = p t) := fun i hi => by
    rw [(hp i hi).2, (hp t (Nat.le_refl t)).2]
    exact nI_eq (by have := (hp i hi).1; omega) (by have := (hp t (Nat.le_refl t)).1; omega)
  have tail : ∀ d i n, i + d = t + 1 → d < n → f_X6_isFit_80 N I (aW A 26 g) J n (nI k) (nI t) (nI (cnt (fun j => decide (p j = p t)) i)) (nI i) = some (bB (decide (cnt (fun j => decide (p j = p t)) (t + 1) ≤ m))) := by
    intro d
    induction d with
    | zero =>
      intro i n hi hn
      obtain ⟨n, rfl⟩ : ∃ k, n = k + 1 := ⟨n - 1, by omega⟩
      have hc := cnt_le (fun j => decide (p j = p t)) (t + 1)
      rw [f_X6_isFit_80, if_pos (nI_lt (by omega) (by omega)), gd_t (by omega) (by decide), nI_clamp (by omega), aW_n A g (show ¬ (18 : Nat) = 26 by decide), h18, show i = t + 1 by omega]
      by_cases q : cnt (fun j => decide (p j = p t)) (t + 1) ≤ m
      · rw [if_neg (nI_nlt q (by omega)), decide_eq_true q]; rfl
      · rw [if_pos (nI_lt (by omega) (by omega)), decide_eq_false q]; rfl
    | succ d ih =>
      intro i n hi hn
      obtain ⟨n, rfl⟩ : ∃ k, n = k + 1 := ⟨n - 1, by omega⟩
      rw [f_X6_isFit_80, if_neg (nI_nlt (show i ≤ t by omega) (by omega)), gd_t (by omega) (by decide), gd_t (by omega) (by decide), nI_clamp (by omega), nI_clamp (by omega), aW_s, xa1, xa1]
      by_cases q : p i = p t
      · rw [if_pos ((eqv i (by omega)).mpr q)]
        have := ih (i + 1) n (by omega) (by omega)
        rw [cnt, if_pos (decide_eq_true q)] at this
        exact this
      · rw [if_neg (fun z => q ((eqv i (by omega)).mp z))]
        have := ih (i + 1) n (by omega) (by omega)
        rw [cnt, if_neg (by simpa using q)] at this
        exact this
  have loop : ∀ d i n, i + d = t → d < n → ∃ b : Bool, f_X6_isFit_2 N I (aW A 26 g) J n (nI k) (nI t) (nI i) = some (bB b) ∧ (b = true ↔ (∀ j, i ≤ j → j < t → (¬ A 16 (36 * k + (6 * j + t)) = 0 → ¬ p j = p t) ∧ (¬ A 17 (36 * k + (6 * j + t)) = 0 → p j = p t)) ∧ cnt (fun j => decide (p j = p t)) (t + 1) ≤ m) := by
    intro d
    induction d with
    | zero =>
      intro i n hi hn
      obtain ⟨n, rfl⟩ : ∃ k, n = k + 1 := ⟨n - 1, by omega⟩
      rw [f_X6_isFit_2, if_pos (nI_le (by omega) (by omega))]
      refine ⟨_, tail (t + 1) 0 N (by omega) (by omega), ?_⟩
      rw [decide_eq_true_iff]
      exact ⟨fun z => ⟨fun j h1 h2 => by omega, z⟩, fun z => z.2⟩
    | succ d ih =>
      intro i n hi hn
      obtain ⟨n, rfl⟩ : ∃ k, n = k + 1 := ⟨n - 1, by omega⟩
      obtain ⟨b, b1, b2⟩ := ih (i + 1) n (by omega) (by omega)
      have hpr := e_pairL (k := k) (a := i) (b := t) hk (by omega) (by omega)
      have hlt : 36 * k + (6 * i + t) < 144 := by omega
      have next : ((¬ A 16 (36 * k + (6 * i + t)) = 0 → ¬ p i = p t) ∧ (¬ A 17 (36 * k + (6 * i + t)) = 0 → p i = p t)) → (b = true ↔ (∀ j, i ≤ j → j < t → (¬ A 16 (36 * k + (6 * j + t)) = 0 → ¬ p j = p t) ∧ (¬ A 17 (36 * k + (6 * j + t)) = 0 → p j = p t)) ∧ cnt (fun j => decide (p j = p t)) (t + 1) ≤ m) := by
        intro z
        rw [b2]
        refine and_congr_left fun _ => ⟨fun y j j1 j2 => ?_, fun y j j1 j2 => y j (by omega) j2⟩
        by_cases e : j = i
        · rw [e]; exact z
        · exact y j (by omega) j2
      have bad : ¬ ((¬ A 16 (36 * k + (6 * i + t)) = 0 → ¬ p i = p t) ∧ (¬ A 17 (36 * k + (6 * i + t)) = 0 → p i = p t)) → ∃ b : Bool, some (0 : Int32) = some (bB b) ∧ (b = true ↔ (∀ j, i ≤ j → j < t → (¬ A 16 (36 * k + (6 * j + t)) = 0 → ¬ p j = p t) ∧ (¬ A 17 (36 * k + (6 * j + t)) = 0 → p j = p t)) ∧ cnt (fun j => decide (p j = p t)) (t + 1) ≤ m) :=
        fun z => ⟨false, rfl, fun y => (by cases y), fun y => absurd (y.1 i (Nat.le_refl i) (by omega)) z⟩
      rw [f_X6_isFit_2, if_neg (nI_ge (show i < t by omega) (by omega)), gd_t (by omega) (by decide), gd_t (by omega) (by decide), nI_clamp (by omega), nI_clamp (by omega), aW_s]
      unfold f_X6_isFit_27 f_X6_isFit_48
      rw [hpr]
      simp only [Option.bind_some, gd_t hlt (show (144 : Nat) < 2 ^ 31 by decide), nI_clamp (show 36 * k + (6 * i + t) < 2 ^ 31 by omega), aW_n A g (show ¬ (16 : Nat) = 26 by decide), aW_n A g (show ¬ (17 : Nat) = 26 by decide), xa1]
      by_cases q : p i = p t
      · rw [if_pos ((eqv i (by omega)).mpr q), if_neg one_ne, if_neg one_ne]
        by_cases q1 : A 16 (36 * k + (6 * i + t)) = 0
        · rw [if_pos q1, ite_self]
          exact ⟨b, b1, next ⟨fun z => absurd q1 z, fun _ => q⟩⟩
        · rw [if_neg q1]
          exact bad (fun z => z.1 q1 q)
      · rw [if_neg (fun z => q ((eqv i (by omega)).mp z))]
        simp only [if_true, ite_self]
        by_cases q1 : A 17 (36 * k + (6 * i + t)) = 0
        · rw [if_pos q1]
          exact ⟨b, b1, next ⟨fun _ => q, fun z => absurd q1 z⟩⟩
        · rw [if_neg q1]
          exact bad (fun z => q (z.2 q1))
  obtain ⟨b, b1, b2⟩ := loop t 0 N (by omega) (by omega)
  refine ⟨b, b1, b2.trans ?_⟩
  unfold FtP
  exact and_congr_left fun _ => ⟨fun z j hj => z j (Nat.zero_le j) hj, fun z j _ hj => z j hj⟩
def CsP (A : Nat → Nat → Int32) (c k T m : Nat) (D : Nat → Int32) (rl : Nat → Nat → Bool) : Prop := c < 16 ∧ k < 4 ∧ T ≤ 6 ∧ m ≤ 6 ∧ A 18 k = nI m ∧ (∀ t, t < T → A 21 (6 * c + t) = D t ∧ (D t = -1 ∨ ∃ u, u < 12 ∧ D t = nI u)) ∧ (∀ t, t < T → ∃ r, r < 8 ∧ A 14 (6 * k + t) = nI r ∧ ∀ u, u < 12 → rl t u = bI (A 1 u) r)
theorem upd_self (g : Nat → Int32) (t : Nat) : upd g t (g t) = g := by
  funext j
  unfold upd
  by_cases h : j = t
  · rw [if_pos h, h]
  · rw [if_neg h]
theorem upd_upd (g : Nat → Int32) (t : Nat) (x y : Int32) : upd (upd g t x) t y = upd g t y := by
  funext j
  unfold upd
  by_cases h : j = t
  · rw [if_pos h, if_pos h]
  · rw [if_neg h, if_neg h, if_neg h]
/-- the next user with the role of task t, from w on -/
theorem e_next {A : Nat → Nat → Int32} {c k T m t : Nat} {D : Nat → Int32} {rl : Nat → Nat → Bool} (hC : CsP A c k T m D rl) (ht : t < T) (I : Nat → Int32) (J : Nat → Nat → Int64) : ∀ d w (g : Nat → Int32), w + d = 12 → g t = nI w →
    (∃ u, w ≤ u ∧ u < 12 ∧ rl t u = true ∧ (∀ v, w ≤ v → v < u → ¬ rl t v = true) ∧ ∀ N k27 n, d < n → f_X6_canBe_107 N k27 n I (aW A 26 g) J (nI c) (nI k) (nI T) (nI t) = f_X6_canBe_182 N k27 I (aW A 26 (upd g t (nI u))) J (nI c) (nI k) (nI T) (nI t) 1)
    ∨ ((∀ v, w ≤ v → v < 12 → ¬ rl t v = true) ∧ ∀ N k27 n, d < n → f_X6_canBe_107 N k27 n I (aW A 26 g) J (nI c) (nI k) (nI T) (nI t) = f_X6_canBe_182 N k27 I (aW A 26 (upd g t 12)) J (nI c) (nI k) (nI T) (nI t) 0) := by
  obtain ⟨c1, c2, c3, c4, c5, c6, c7⟩ := hC
  obtain ⟨r, r8, hr, hrl⟩ := c7 t ht
  intro d
  induction d with
  | zero =>
    intro w g hw hg
    refine Or.inr ⟨fun v h1 h2 => by omega, fun N k27 n hn => ?_⟩
    obtain ⟨n, rfl⟩ : ∃ k, n = k + 1 := ⟨n - 1, by omega⟩
    have e12 : g t = 12 := by rw [hg, show w = 12 by omega]; rfl
    rw [f_X6_canBe_107, gd_t (by omega) (by decide), gd_t (by omega) (by decide), nI_clamp (by omega), aW_s, e12, if_pos (by decide), if_pos (by decide), ← e12, upd_self]
  | succ d ih =>
    intro w g hw hg
    have hw12 : ¬ (12 : Int32) ≤ nI w := nI_ge (b := 12) (by omega) (by decide)
    by_cases q : rl t w = true
    · refine Or.inl ⟨w, Nat.le_refl w, by omega, q, fun v h1 h2 => by omega, fun N k27 n hn => ?_⟩
      obtain ⟨n, rfl⟩ : ∃ k, n = k + 1 := ⟨n - 1, by omega⟩
      rw [f_X6_canBe_107, show (6 : Int32) * nI k + nI t = nI (6 * k + t) by rw [show (6 : Int32) = nI 6 from rfl, pk_mul, nI_add]]
      simp only [gd_t (show t < 6 by omega) (show (6 : Nat) < 2 ^ 31 by decide), nI_clamp (show t < 2 ^ 31 by omega), aW_s, hg, if_neg hw12, gd_t (show w < 12 by omega) (show (12 : Nat) < 2 ^ 31 by decide), gd_t (show 6 * k + t < 24 by omega) (show (24 : Nat) < 2 ^ 31 by decide), nI_clamp (show 6 * k + t < 2 ^ 31 by omega), nI_clamp (show w < 2 ^ 31 by omega), aW_n A g (show ¬ (14 : Nat) = 26 by decide), aW_n A g (show ¬ (1 : Nat) = 26 by decide), hr]
      rw [if_neg (fun z => by have z2 := (hb_s (by omega) _).mp z; rw [← hrl w (by omega), q] at z2; cases z2), ← hg, upd_self]
    · have hg' : upd g t (nI (w + 1)) t = nI (w + 1) := pk_us
      have one : ∀ N k27 n, f_X6_canBe_107 N k27 (n + 1) I (aW A 26 g) J (nI c) (nI k) (nI T) (nI t) = f_X6_canBe_107 N k27 n I (aW A 26 (upd g t (nI (w + 1)))) J (nI c) (nI k) (nI T) (nI t) := by
        intro N k27 n
        rw [f_X6_canBe_107, show (6 : Int32) * nI k + nI t = nI (6 * k + t) by rw [show (6 : Int32) = nI 6 from rfl, pk_mul, nI_add]]
        simp only [gd_t (show t < 6 by omega) (show (6 : Nat) < 2 ^ 31 by decide), nI_clamp (show t < 2 ^ 31 by omega), aW_s, hg, if_neg hw12, gd_t (show w < 12 by omega) (show (12 : Nat) < 2 ^ 31 by decide), gd_t (show 6 * k + t < 24 by omega) (show (24 : Nat) < 2 ^ 31 by decide), nI_clamp (show 6 * k + t < 2 ^ 31 by omega), nI_clamp (show w < 2 ^ 31 by omega), aW_n A g (show ¬ (14 : Nat) = 26 by decide), aW_n A g (show ¬ (1 : Nat) = 26 by decide), hr]
        rw [if_pos ((hb_s (by omega) _).mpr (by rw [← hrl w (by omega)]; simpa using q)), aSW, xa1]
      rcases ih (w + 1) _ (by omega) hg' with ⟨u, u1, u2, u3, u4, u5⟩ | ⟨u4, u5⟩
      · refine Or.inl ⟨u, by omega, u2, u3, fun v h1 h2 => ?_, fun N k27 n hn => ?_⟩
        · by_cases e : v = w
          · rw [e]; exact q
          · exact u4 v (by omega) h2
        · obtain ⟨n, rfl⟩ : ∃ k, n = k + 1 := ⟨n - 1, by omega⟩
          rw [one, u5 N k27 n (by omega), upd_upd]
      · refine Or.inr ⟨fun v h1 h2 => ?_, fun N k27 n hn => ?_⟩
        · by_cases e : v = w
          · rw [e]; exact q
          · exact u4 v (by omega) h2
        · obtain ⟨n, rfl⟩ : ∃ k, n = k + 1 := ⟨n - 1, by omega⟩
          rw [one, u5 N k27 n (by omega), upd_upd]
def AtW (g : Nat → Int32) (t w : Nat) : Prop := (w = 0 ∧ g t = -1) ∨ ∃ v, v < 12 ∧ w = v + 1 ∧ g t = nI v
theorem AtW_1 {g : Nat → Int32} {t w : Nat} (h : AtW g t w) : g t + 1 = nI w := by
  rcases h with ⟨rfl, h⟩ | ⟨v, -, rfl, h⟩
  · rw [h]; decide
  · rw [h, xa1]
/-- one turn of the search at task t -/
theorem e_step {A : Nat → Nat → Int32} {c k T m t w : Nat} {D : Nat → Int32} {rl : Nat → Nat → Bool} (hC : CsP A c k T m D rl) (ht : t < T) (I : Nat → Int32) (J : Nat → Nat → Int64) (g : Nat → Int32) (hw : w ≤ 12) (hg : AtW g t w) (hD : ¬ D t = -1 → w = 0 ∨ g t = D t) :
    (∃ u, w ≤ u ∧ CdD D rl t u ∧ (∀ v, w ≤ v → v < u → ¬ CdD D rl t v) ∧ ∀ N n, 14 ≤ N → f_X6_canBe_27 N (n + 1) I (aW A 26 g) J (nI c) (nI k) (nI T) (nI t) = f_X6_canBe_182 N (f_X6_canBe_27 N n) I (aW A 26 (upd g t (nI u))) J (nI c) (nI k) (nI T) (nI t) 1)
    ∨ ((∀ v, w ≤ v → ¬ CdD D rl t v) ∧ ∀ N n, 14 ≤ N → f_X6_canBe_27 N (n + 1) I (aW A 26 g) J (nI c) (nI k) (nI T) (nI t) = f_X6_canBe_182 N (f_X6_canBe_27 N n) I (aW A 26 (upd g t 12)) J (nI c) (nI k) (nI T) (nI t) 0) := by
  have hC' := hC
  obtain ⟨c1, c2, c3, c4, c5, c6, c7⟩ := hC'
  obtain ⟨d1, d2⟩ := c6 t ht
  have hn0 : ¬ nI t < 0 := nI_pos (by omega)
  have hnT : ¬ nI T ≤ nI t := nI_ge ht (by omega)
  have e6 : (6 : Int32) * nI c + nI t = nI (6 * c + t) := by rw [show (6 : Int32) = nI 6 from rfl, pk_mul, nI_add]
  by_cases q : D t = -1
  · have one : ∀ N n, f_X6_canBe_27 N (n + 1) I (aW A 26 g) J (nI c) (nI k) (nI T) (nI t) = f_X6_canBe_107 N (f_X6_canBe_27 N n) N I (aW A 26 (upd g t (nI w))) J (nI c) (nI k) (nI T) (nI t) := by
      intro N n
      rw [f_X6_canBe_27, if_neg hn0, if_neg hnT, e6, gd_t (show 6 * c + t < 96 by omega) (by decide), nI_clamp (show 6 * c + t < 2 ^ 31 by omega), aW_n A g (show ¬ (21 : Nat) = 26 by decide), d1, q, if_pos (by decide), gd_t (show t < 6 by omega) (by decide), gd_t (show t < 6 by omega) (by decide), nI_clamp (show t < 2 ^ 31 by omega), aW_s, AtW_1 hg, aSW]
    rcases e_next hC ht I J (12 - w) w (upd g t (nI w)) (by omega) pk_us with ⟨u, u1, u2, u3, u4, u5⟩ | ⟨u4, u5⟩
    · refine Or.inl ⟨u, u1, ⟨u2, fun _ => u3, fun z => absurd q z⟩, fun v v1 v2 z => u4 v v1 v2 (z.2.1 q), fun N n hN => ?_⟩
      rw [one, u5 N _ N (by omega), upd_upd]
    · refine Or.inr ⟨fun v v1 z => u4 v v1 z.1 (z.2.1 q), fun N n hN => ?_⟩
      rw [one, u5 N _ N (by omega), upd_upd]
  · obtain ⟨v0, v1, v2⟩ := d2.resolve_left q
    have hd0 : ¬ D t < 0 := by rw [v2]; exact nI_pos (by omega)
    have one : ∀ N n, f_X6_canBe_27 N (n + 1) I (aW A 26 g) J (nI c) (nI k) (nI T) (nI t) = if 0 ≤ g t then f_X6_canBe_182 N (f_X6_canBe_27 N n) I (aW A 26 (upd g t 12)) J (nI c) (nI k) (nI T) (nI t) 0 else f_X6_canBe_182 N (f_X6_canBe_27 N n) I (aW A 26 (upd g t (nI v0))) J (nI c) (nI k) (nI T) (nI t) 1 := by
      intro N n
      rw [f_X6_canBe_27, if_neg hn0, if_neg hnT, e6, gd_t (show 6 * c + t < 96 by omega) (by decide), nI_clamp (show 6 * c + t < 2 ^ 31 by omega), aW_n A g (show ¬ (21 : Nat) = 26 by decide), d1, if_neg hd0, gd_t (show t < 6 by omega) (by decide), nI_clamp (show t < 2 ^ 31 by omega), aW_s]
      unfold f_X6_canBe_72
      rw [if_pos zero_t, if_neg one_ne, gd_t (show t < 6 by omega) (by decide), gd_t (show t < 6 by omega) (by decide), nI_clamp (show t < 2 ^ 31 by omega), aSW, aSW, v2]
    rcases hD q with z | z
    · have gm : g t = -1 := by
        rcases hg with ⟨-, h⟩ | ⟨v, -, h, -⟩
        · exact h
        · omega
      refine Or.inl ⟨v0, by omega, ⟨v1, fun z => absurd z q, fun _ => v2⟩, fun v y1 y2 y3 => ?_, fun N n hN => ?_⟩
      · have := y3.2.2 q
        rw [v2, nI_eq (by omega) (by have := y3.1; omega)] at this
        omega
      · rw [one, gm, if_neg (by decide)]
    · have gm : 0 ≤ g t := by rw [z, v2]; exact nI_pos' (by omega)
      refine Or.inr ⟨fun v y1 y3 => ?_, fun N n hN => ?_⟩
      · have y4 := y3.2.2 q
        rcases hg with ⟨-, h⟩ | ⟨v', h1, h2, h3⟩
        · rw [h] at gm; exact absurd gm (by decide)
        · rw [← z, h3, nI_eq (by omega) (by have := y3.1; omega)] at y4
          omega
      · rw [one, if_pos gm]
abbrev kN (N n : Nat) (I : Nat → Int32) (A : Nat → Nat → Int32) (J : Nat → Nat → Int64) (g : Nat → Int32) (c k T t : Nat) : Option (Int32 × (Nat → Int32) × (Nat → Nat → Int32) × (Nat → Nat → Int64)) := if nI T ≤ nI t + 1 then f_X6_canBe_27 N n I (aW A 26 g) J (nI c) (nI k) (nI T) (nI t + 1) else gd (nI t + 1) 6 (f_X6_canBe_27 N n I (aS (aW A 26 g) 26 (nI t + 1).toNatClampNeg (-1)) J (nI c) (nI k) (nI T) (nI t + 1))
def prP (m t : Nat) (D : Nat → Int32) (rl : Nat → Nat → Bool) (P Q : Nat → Int32) (g : Nat → Int32) (p : Nat → Nat) : Prop := ∀ i, i < t → CdD D rl i (p i) ∧ FtP m P Q p i ∧ g i = nI (p i)
/-- from task t on, users from w on: a solution is found, or there is none and the task before has its turn -/
theorem e_level {A : Nat → Nat → Int32} {c k T m t : Nat} {D : Nat → Int32} {rl : Nat → Nat → Bool} (hC : CsP A c k T m D rl) (ht : t < T) (I : Nat → Int32) (J : Nat → Nat → Int64)
    (hNext : ∀ g p, prP m (t + 1) D rl (fun q => A 16 (36 * k + q)) (fun q => A 17 (36 * k + q)) g p →
      (∃ s, SolP T m D rl (fun q => A 16 (36 * k + q)) (fun q => A 17 (36 * k + q)) s ∧ (∀ i, i < t + 1 → s i = p i) ∧ ∃ cc g', ∀ N n, 250 ≤ N → kN N (n + cc) I A J g c k T t = some (1, I, aW A 26 g', J))
      ∨ ((∀ s, SolP T m D rl (fun q => A 16 (36 * k + q)) (fun q => A 17 (36 * k + q)) s → ¬ (∀ i, i < t + 1 → s i = p i)) ∧ ∃ cc g', (∀ i, i < t + 1 → g' i = g i) ∧ ∀ N n, 250 ≤ N → kN N (n + cc) I A J g c k T t = f_X6_canBe_27 N n I (aW A 26 g') J (nI c) (nI k) (nI T) (nI t))) :
    ∀ e w g p, w + e = 12 → prP m t D rl (fun q => A 16 (36 * k + q)) (fun q => A 17 (36 * k + q)) g p → AtW g t w → (¬ D t = -1 → w = 0 ∨ g t = D t) →
      (∃ s, SolP T m D rl (fun q => A 16 (36 * k + q)) (fun q => A 17 (36 * k + q)) s ∧ (∀ i, i < t → s i = p i) ∧ w ≤ s t ∧ ∃ cc g', ∀ N n, 250 ≤ N → f_X6_canBe_27 N (n + cc) I (aW A 26 g) J (nI c) (nI k) (nI T) (nI t) = some (1, I, aW A 26 g', J))
      ∨ ((∀ s, SolP T m D rl (fun q => A 16 (36 * k + q)) (fun q => A 17 (36 * k + q)) s → (∀ i, i < t → s i = p i) → ¬ w ≤ s t) ∧ ∃ cc g', (∀ i, i < t → g' i = g i) ∧ ∀ N n, 250 ≤ N → f_X6_canBe_27 N (n + cc) I (aW A 26 g) J (nI c) (nI k) (nI T) (nI t) = f_X6_canBe_27 N n I (aW A 26 g') J (nI c) (nI k) (nI T) (nI t + (-1))) := by
  have hC' := hC
  obtain ⟨c1, c2, c3, c4, c5, c6, c7⟩ := hC'
  intro e
  induction e using Nat.strongRecOn with
  | _ e ih =>
  intro w g p hw hp hg hD
  rcases e_step hC ht I J g (by omega) hg hD with ⟨u, u1, u2, u3, u4⟩ | ⟨u3, u4⟩
  · have hu12 := u2.1
    have hg1 : ∀ i, i < t → upd g t (nI u) i = g i := fun i hi => pk_un (by omega)
    have hg1t : upd g t (nI u) t = nI u := pk_us
    obtain ⟨p1, p1t, p1n⟩ : ∃ p1 : Nat → Nat, p1 t = u ∧ ∀ i, ¬ i = t → p1 i = p i := ⟨fun i => if i = t then u else p i, if_pos rfl, fun i h => if_neg h⟩
    have p1i : ∀ i, i < t → p1 i = p i := fun i hi => p1n i (by omega)
    have hval : ∀ i, i ≤ t → p1 i < 12 ∧ upd g t (nI u) i = nI (p1 i) := by
      intro i hi
      by_cases z : i = t
      · rw [z, p1t, hg1t]; exact ⟨hu12, rfl⟩
      · have z1 : i < t := by omega
        rw [p1i i z1, hg1 i z1]
        exact ⟨(hp i z1).1.1, (hp i z1).2.2⟩
    have hp1 : prP m t D rl (fun q => A 16 (36 * k + q)) (fun q => A 17 (36 * k + q)) (upd g t (nI u)) p1 := by
      intro i hi
      have := hp i hi
      refine ⟨by rw [p1i i hi]; exact this.1, FtP_c (s := p) (fun j hj => (p1i j (by omega)).symm) this.2.1, (hval i (by omega)).2⟩
    -- what comes behind u
    have rest := ih (12 - (u + 1)) (by omega) (u + 1) 
    have cont : ∀ g3 : Nat → Int32, (∀ i, i < t + 1 → g3 i = upd g t (nI u) i) → (∀ s, SolP T m D rl (fun q => A 16 (36 * k + q)) (fun q => A 17 (36 * k + q)) s → (∀ i, i < t → s i = p i) → ¬ s t = u) →
        (∀ c0, (∀ N n, 250 ≤ N → f_X6_canBe_27 N (n + c0) I (aW A 26 g) J (nI c) (nI k) (nI T) (nI t) = f_X6_canBe_27 N n I (aW A 26 g3) J (nI c) (nI k) (nI T) (nI t)) →
      (∃ s, SolP T m D rl (fun q => A 16 (36 * k + q)) (fun q => A 17 (36 * k + q)) s ∧ (∀ i, i < t → s i = p i) ∧ w ≤ s t ∧ ∃ cc g', ∀ N n, 250 ≤ N → f_X6_canBe_27 N (n + cc) I (aW A 26 g) J (nI c) (nI k) (nI T) (nI t) = some (1, I, aW A 26 g', J))
      ∨ ((∀ s, SolP T m D rl (fun q => A 16 (36 * k + q)) (fun q => A 17 (36 * k + q)) s → (∀ i, i < t → s i = p i) → ¬ w ≤ s t) ∧ ∃ cc g', (∀ i, i < t → g' i = g i) ∧ ∀ N n, 250 ≤ N → f_X6_canBe_27 N (n + cc) I (aW A 26 g) J (nI c) (nI k) (nI T) (nI t) = f_X6_canBe_27 N n I (aW A 26 g') J (nI c) (nI k) (nI T) (nI t + (-1)))) := by
      intro g3 h3 hno c0 hc0
      have h3t : g3 t = nI u := by rw [h3 t (by omega), hg1t]
      have h3i : ∀ i, i < t → g3 i = g i := fun i hi => by rw [h3 i (by omega), hg1 i hi]
      rcases rest g3 p (by omega) (fun i hi => ⟨(hp i hi).1, (hp i hi).2.1, by rw [h3i i hi]; exact (hp i hi).2.2⟩) (Or.inr ⟨u, hu12, rfl, h3t⟩) (fun z => Or.inr (by rw [h3t, u2.2.2 z])) with ⟨s, s1, s2, s3, cc, g', s4⟩ | ⟨s1, cc, g', s2, s3⟩
      · refine Or.inl ⟨s, s1, s2, by omega, cc + c0, g', fun N n hN => ?_⟩
        rw [show n + (cc + c0) = (n + cc) + c0 by omega, hc0 N _ hN, s4 N n hN]
      · refine Or.inr ⟨fun s y1 y2 y3 => ?_, cc + c0, g', fun i hi => by rw [s2 i hi, h3i i hi], fun N n hN => ?_⟩
        · rcases Nat.lt_trichotomy (s t) u with z | z | z
          · exact u3 (s t) y3 z (y1 t ht).1
          · exact hno s y1 y2 z
          · exact s1 s y1 y2 (by omega)
        · rw [show n + (cc + c0) = (n + cc) + c0 by omega, hc0 N _ hN, s3 N n hN]
    by_cases q : FtP m (fun q => A 16 (36 * k + q)) (fun q => A 17 (36 * k + q)) p1 t
    · have one : ∀ N n, 250 ≤ N → f_X6_canBe_27 N (n + 1) I (aW A 26 g) J (nI c) (nI k) (nI T) (nI t) = kN N n I A J (upd g t (nI u)) c k T t := by
        intro N n hN
        obtain ⟨b, b1, b2⟩ := e_isFit (N := N) (by omega) c3 c4 c2 ht I A J (upd g t (nI u)) _ c5 hval
        rw [u4 N n (by omega)]
        unfold f_X6_canBe_182
        rw [if_neg one_ne, b1, b2.mpr q, Option.bind_some, show bB true = 1 from rfl, if_neg one_ne]
      have hp2 : prP m (t + 1) D rl (fun q => A 16 (36 * k + q)) (fun q => A 17 (36 * k + q)) (upd g t (nI u)) p1 := by
        intro i hi
        by_cases z : i = t
        · subst z
          refine ⟨by rw [p1t]; exact u2, q, (hval i (by omega)).2⟩
        · exact hp1 i (by omega)
      rcases hNext _ _ hp2 with ⟨s, s1, s2, cc, g', s3⟩ | ⟨s1, cc, g', s2, s3⟩
      · refine Or.inl ⟨s, s1, fun i hi => by rw [s2 i (by omega), p1i i hi], by rw [s2 t (by omega), p1t]; exact u1, cc + 1, g', fun N n hN => ?_⟩
        rw [show n + (cc + 1) = (n + cc) + 1 by omega, one N _ hN, s3 N n hN]
      · refine cont g' s2 (fun s y1 y2 y3 => s1 s y1 (fun i hi => ?_)) (cc + 1) (fun N n hN => ?_)
        · by_cases z : i = t
          · rw [z, p1t, y3]
          · rw [p1i i (by omega), y2 i (by omega)]
        · rw [show n + (cc + 1) = (n + cc) + 1 by omega, one N _ hN, s3 N n hN]
    · refine cont (upd g t (nI u)) (fun i _ => rfl) (fun s y1 y2 y3 => q (FtP_c (s := s) (fun j hj => ?_) (y1 t ht).2)) 1 (fun N n hN => ?_)
      · by_cases z : j = t
        · rw [z, p1t, y3]
        · rw [p1i j (by omega), y2 j (by omega)]
      · obtain ⟨b, b1, b2⟩ := e_isFit (N := N) (by omega) c3 c4 c2 ht I A J (upd g t (nI u)) _ c5 hval
        have hb : b = false := by
          cases b with
          | false => rfl
          | true => exact absurd (b2.mp rfl) q
        rw [u4 N n (by omega)]
        unfold f_X6_canBe_182
        rw [if_neg one_ne, b1, hb, Option.bind_some, show bB false = 0 from rfl, if_pos zero_t]
  · refine Or.inr ⟨fun s y1 y2 y3 => u3 (s t) y3 (y1 t ht).1, 1, upd g t 12, fun i hi => pk_un (by omega), fun N n hN => ?_⟩
    rw [u4 N n (by omega)]
    unfold f_X6_canBe_182
    rw [if_pos zero_t]
/-- the whole search from task t on -/
theorem e_explore {A : Nat → Nat → Int32} {c k T m : Nat} {D : Nat → Int32} {rl : Nat → Nat → Bool} (hC : CsP A c k T m D rl) (I : Nat → Int32) (J : Nat → Nat → Int64) : ∀ d t, t + d + 1 = T → ∀ e w g p, w + e = 12 → prP m t D rl (fun q => A 16 (36 * k + q)) (fun q => A 17 (36 * k + q)) g p → AtW g t w → (¬ D t = -1 → w = 0 ∨ g t = D t) →
      (∃ s, SolP T m D rl (fun q => A 16 (36 * k + q)) (fun q => A 17 (36 * k + q)) s ∧ (∀ i, i < t → s i = p i) ∧ w ≤ s t ∧ ∃ cc g', ∀ N n, 250 ≤ N → f_X6_canBe_27 N (n + cc) I (aW A 26 g) J (nI c) (nI k) (nI T) (nI t) = some (1, I, aW A 26 g', J))
      ∨ ((∀ s, SolP T m D rl (fun q => A 16 (36 * k + q)) (fun q => A 17 (36 * k + q)) s → (∀ i, i < t → s i = p i) → ¬ w ≤ s t) ∧ ∃ cc g', (∀ i, i < t → g' i = g i) ∧ ∀ N n, 250 ≤ N → f_X6_canBe_27 N (n + cc) I (aW A 26 g) J (nI c) (nI k) (nI T) (nI t) = f_X6_canBe_27 N n I (aW A 26 g') J (nI c) (nI k) (nI T) (nI t + (-1))) := by
  have hC' := hC
  obtain ⟨c1, c2, c3, c4, c5, c6, c7⟩ := hC'
  intro d
  induction d with
  | zero =>
    intro t htd
    refine e_level hC (by omega) I J (fun g p hp => Or.inl ⟨p, fun i hi => ⟨(hp i (by omega)).1, (hp i (by omega)).2.1⟩, fun i _ => rfl, 1, g, fun N n hN => ?_⟩)
    have eT : nI t + 1 = nI T := by rw [xa1, show t + 1 = T by omega]
    unfold kN
    rw [eT, if_pos (Int32.le_refl _), f_X6_canBe_27, if_neg (nI_pos (by omega)), if_pos (Int32.le_refl _), if_pos rfl]
  | succ d ih =>
    intro t htd
    refine e_level hC (by omega) I J (fun g p hp => ?_)
    have hk2 : ∀ N n, kN N n I A J g c k T t = f_X6_canBe_27 N n I (aW A 26 (upd g (t + 1) (-1))) J (nI c) (nI k) (nI T) (nI (t + 1)) := by
      intro N n
      unfold kN
      rw [xa1, if_neg (nI_ge (by omega) (by omega)), gd_t (by omega) (by decide), nI_clamp (by omega), aSW]
    have hp' : prP m (t + 1) D rl (fun q => A 16 (36 * k + q)) (fun q => A 17 (36 * k + q)) (upd g (t + 1) (-1)) p := fun i hi => ⟨(hp i hi).1, (hp i hi).2.1, by rw [pk_un (by omega)]; exact (hp i hi).2.2⟩
    rcases ih (t + 1) (by omega) 12 0 (upd g (t + 1) (-1)) p rfl hp' (Or.inl ⟨rfl, pk_us⟩) (fun _ => Or.inl rfl) with ⟨s, s1, s2, -, cc, g', s4⟩ | ⟨s1, cc, g', s2, s3⟩
    · exact Or.inl ⟨s, s1, s2, cc, g', fun N n hN => by rw [hk2, s4 N n hN]⟩
    · refine Or.inr ⟨fun s y1 y2 => s1 s y1 y2 (Nat.zero_le _), cc, g', fun i hi => by rw [s2 i hi, pk_un (by omega)], fun N n hN => ?_⟩
      rw [hk2, s3 N n hN, show nI (t + 1) + (-1) = nI t from pk_m1 t]
/-- canBe: whether there is a solution; only what was tried is written -/
theorem e_canBe {A : Nat → Nat → Int32} {c k T m : Nat} {D : Nat → Int32} {rl : Nat → Nat → Bool} (hC : CsP A c k T m D rl) (I : Nat → Int32) (J : Nat → Nat → Int64) (h20 : A 20 c = nI k) (h13 : A 13 k = nI T) :
    ∃ (b : Bool) (cc : Nat) (g : Nat → Int32), (b = true ↔ ∃ s, SolP T m D rl (fun q => A 16 (36 * k + q)) (fun q => A 17 (36 * k + q)) s) ∧ ∀ N, cc + 250 ≤ N → f_X6_canBe N I A J (nI c) = some (bB b, I, aW A 26 g, J) := by
  have hC' := hC
  obtain ⟨c1, c2, c3, c4, c5, c6, c7⟩ := hC'
  have start : ∀ N, f_X6_canBe N I A J (nI c) = f_X6_canBe_27 N N I (aW A 26 (upd (A 26) 0 (-1))) J (nI c) (nI k) (nI T) (nI 0) := by
    intro N
    unfold f_X6_canBe
    rw [gd_t c1 (by decide), nI_clamp (by omega), h20, gd_t c2 (by decide), nI_clamp (by omega), show (0 : Int32) = nI 0 from rfl, gd_t (by omega) (by decide), nI_clamp (by omega)]
    have e1 : aS A 26 0 (-1) = aW A 26 (upd (A 26) 0 (-1)) := by
      funext j
      unfold aS aW
      by_cases h : j = 26 <;> simp [h]
    rw [e1, h13]
  rcases Nat.eq_zero_or_pos T with hT | hT
  · subst hT
    refine ⟨true, 0, upd (A 26) 0 (-1), ⟨fun _ => ⟨fun _ => 0, fun i hi => by omega⟩, fun _ => rfl⟩, fun N hN => ?_⟩
    obtain ⟨n, rfl⟩ : ∃ k, N = k + 1 := ⟨N - 1, by omega⟩
    rw [start, f_X6_canBe_27, if_neg (nI_pos (by omega)), if_pos (Int32.le_refl _), if_pos rfl]
    rfl
  · rcases e_explore hC I J (T - 1) 0 (by omega) 12 0 (upd (A 26) 0 (-1)) (fun _ => 0) rfl (fun i hi => by omega) (Or.inl ⟨rfl, pk_us⟩) (fun _ => Or.inl rfl) with ⟨s, s1, -, -, cc, g', s4⟩ | ⟨s1, cc, g', -, s3⟩
    · refine ⟨true, cc, g', ⟨fun _ => ⟨s, s1⟩, fun _ => rfl⟩, fun N hN => ?_⟩
      obtain ⟨n, rfl⟩ : ∃ k, N = k + cc := ⟨N - cc, by omega⟩
      rw [start, s4 (n + cc) n (by omega)]
      rfl
    · refine ⟨false, cc + 1, g', ⟨fun z => (by cases z), fun ⟨s, z⟩ => absurd (Nat.zero_le _) (s1 s z (fun i hi => by omega))⟩, fun N hN => ?_⟩
      obtain ⟨n, rfl⟩ : ∃ k, N = (k + 1) + cc := ⟨N - cc - 1, by omega⟩
      have hneg : nI 0 + (-1) < 0 := by decide
      have hne : ¬ nI 0 + (-1) = nI T := fun z => by rw [z] at hneg; exact nI_pos (by omega) hneg
      rw [start, s3 _ (n + 1) (by omega), f_X6_canBe_27, if_pos hneg, if_neg hne]
      rfl
