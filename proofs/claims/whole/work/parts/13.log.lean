/-! the record: what a link is, an entry more, the first that is wrong -/
def mixL (x : Int64) (v : Int32) : Int64 := ((x ^^^ (uShL x 29)) * (-4658895280553007687)) + (i2L v)
def finL (x : Int64) (v : Int32) : Int64 := (((x ^^^ (uShL x 32)) * (-7723592293110705685)) + (i2L v)) ^^^ (uShL (((x ^^^ (uShL x 32)) * (-7723592293110705685)) + (i2L v)) 31)
def lnk (p : Int64) (a b c d e : Int32) : Int64 := finL (mixL (mixL (mixL ((p * (-7046029254386353131)) + (i2L a)) b) c) d) e
/-- the link that entry i should have: of the cells f and the links g -/
def lnkAt (f : Nat → Int32) (g : Nat → Int64) (i : Nat) : Int64 := lnk (if i = 0 then 1 else g (i - 1)) (f (i * 5)) (f (i * 5 + 1)) (f (i * 5 + 2)) (f (i * 5 + 3)) (f (i * 5 + 4))
theorem x5 (i : Nat) : nI i * 5 = nI (i * 5) := pk_mul i 5
theorem x5' (i : Nat) : (5 : Int32) * nI i = nI (i * 5) := by rw [Int32.mul_comm]; exact pk_mul i 5
theorem xa (i k : Nat) : nI i + nI k = nI (i + k) := nI_add i k
theorem xa1 (i : Nat) : nI i + 1 = nI (i + 1) := nI_add i 1
theorem xa2 (i : Nat) : nI i + 2 = nI (i + 2) := nI_add i 2
theorem xa3 (i : Nat) : nI i + 3 = nI (i + 3) := nI_add i 3
theorem xa4 (i : Nat) : nI i + 4 = nI (i + 4) := nI_add i 4
theorem e_linkDue {N i : Nat} (hN : 5 ≤ N) (hi : i < 240) (I : Nat → Int32) (A : Nat → Nat → Int32) (J : Nat → Nat → Int64) : f_X3_linkDue N I A J (nI i) = some (lnkAt (A 0) (J 1) i) := by
  obtain ⟨n, rfl⟩ : ∃ n, N = n + 5 := ⟨N - 5, by omega⟩
  have loop : ∀ x : Int64, f_X3_linkDue_36 (n + 5) I A J (n + 5) (nI (i * 5)) x 1 = some (finL (mixL (mixL (mixL x (A 0 (i * 5 + 1))) (A 0 (i * 5 + 2))) (A 0 (i * 5 + 3))) (A 0 (i * 5 + 4))) := by
    intro x
    rw [f_X3_linkDue_36, if_neg (by decide), xa1, gd_t (by omega) (by decide), nI_clamp (by omega)]
    rw [f_X3_linkDue_36, if_neg (by decide), show (1 : Int32) + 1 = 2 from rfl, xa2, gd_t (by omega) (by decide), nI_clamp (by omega)]
    rw [f_X3_linkDue_36, if_neg (by decide), show (2 : Int32) + 1 = 3 from rfl, xa3, gd_t (by omega) (by decide), nI_clamp (by omega)]
    rw [f_X3_linkDue_36, if_pos (by decide), xa4, gd_t (by omega) (by decide), nI_clamp (by omega)]
    rfl
  unfold f_X3_linkDue lnkAt lnk
  by_cases h0 : i = 0
  · subst h0
    rw [if_pos (by rfl), x5, gd_t (by omega) (by decide), loop, nI_clamp (by omega), if_pos rfl]
  · rw [if_neg (nI_ne0 (by omega) (by omega)), show nI i - 1 = nI (i - 1) from pk_sub (a := i) (b := 1) (by omega), gd_t (by omega) (by decide), x5, gd_t (by omega) (by decide), loop, nI_clamp (by omega), nI_clamp (by omega), if_neg h0]
theorem e_linkOf {N : Nat} (hN : 5 ≤ N) (p : Int64) (a b c d e : Int32) : f_X6_linkOf N p a b c d e = some (lnk p a b c d e) := by
  obtain ⟨n, rfl⟩ : ∃ n, N = n + 5 := ⟨N - 5, by omega⟩
  unfold f_X6_linkOf
  rw [f_X6_linkOf_13, if_neg (by decide), if_pos rfl, show (0 : Int32) + 1 = 1 from rfl]
  rw [f_X6_linkOf_13, if_neg (by decide), if_neg (by decide), if_pos rfl, show (1 : Int32) + 1 = 2 from rfl]
  rw [f_X6_linkOf_13, if_neg (by decide), if_neg (by decide), if_neg (by decide), show (2 : Int32) + 1 = 3 from rfl]
  rw [f_X6_linkOf_13, if_pos (by decide)]
  rfl
theorem e_linkAt {N i : Nat} (hN : 5 ≤ N) (hi : i < 240) (I : Nat → Int32) (A : Nat → Nat → Int32) (J : Nat → Nat → Int64) : f_X6_linkAt N I A J (nI i) = some (lnkAt (A 23) (J 24) i) := by
  have hh : ∀ p : Int64, f_X6_linkAt_20 N I A J (nI (i * 5)) p = some (lnk p (A 23 (i * 5)) (A 23 (i * 5 + 1)) (A 23 (i * 5 + 2)) (A 23 (i * 5 + 3)) (A 23 (i * 5 + 4))) := by
    intro p
    unfold f_X6_linkAt_20
    rw [gd_t (by omega) (by decide), xa1, gd_t (by omega) (by decide), xa2, gd_t (by omega) (by decide), xa3, gd_t (by omega) (by decide), xa4, gd_t (by omega) (by decide)]
    rw [nI_clamp (by omega), nI_clamp (by omega), nI_clamp (by omega), nI_clamp (by omega), nI_clamp (by omega), e_linkOf hN]
    rfl
  unfold f_X6_linkAt lnkAt
  by_cases h0 : i = 0
  · subst h0
    rw [if_pos (by rfl), x5', hh, if_pos rfl]
  · rw [if_neg (nI_ne0 (by omega) (by omega)), show nI i - 1 = nI (i - 1) from pk_sub (a := i) (b := 1) (by omega), gd_t (by omega) (by decide), x5', hh, nI_clamp (by omega), if_neg h0]
/-- five cells written -/
def put5 (f : Nat → Int32) (i : Nat) (a b c d e : Int32) : Nat → Int32 := upd (upd (upd (upd (upd f (i * 5) a) (i * 5 + 1) b) (i * 5 + 2) c) (i * 5 + 3) d) (i * 5 + 4) e
theorem put5_lo {f : Nat → Int32} {i j : Nat} {a b c d e : Int32} (h : j < i * 5) : put5 f i a b c d e j = f j := by
  unfold put5 upd
  rw [if_neg (by omega), if_neg (by omega), if_neg (by omega), if_neg (by omega), if_neg (by omega)]
theorem put5_in {f g : Nat → Int32} {i j : Nat} {a b c d e : Int32} (h : i * 5 ≤ j) (h2 : j < (i + 1) * 5) : put5 f i a b c d e j = put5 g i a b c d e j := by
  unfold put5 upd
  rcases (show j = i * 5 ∨ j = i * 5 + 1 ∨ j = i * 5 + 2 ∨ j = i * 5 + 3 ∨ j = i * 5 + 4 by omega) with rfl | rfl | rfl | rfl | rfl <;> simp
theorem put5_v (f : Nat → Int32) (i : Nat) (a b c d e : Int32) : put5 f i a b c d e (i * 5) = a ∧ put5 f i a b c d e (i * 5 + 1) = b ∧ put5 f i a b c d e (i * 5 + 2) = c ∧ put5 f i a b c d e (i * 5 + 3) = d ∧ put5 f i a b c d e (i * 5 + 4) = e := by
  unfold put5 upd; simp
theorem aS5 (A : Nat → Nat → Int32) (k i : Nat) (a b c d e : Int32) : aS (aS (aS (aS (aS A k (i * 5) a) k (i * 5 + 1) b) k (i * 5 + 2) c) k (i * 5 + 3) d) k (i * 5 + 4) e = aW A k (put5 (A k) i a b c d e) := by
  funext j
  unfold aS aW put5
  by_cases h : j = k <;> simp [h]
theorem aW_s (A : Nat → Nat → Int32) (k : Nat) (f : Nat → Int32) : aW A k f k = f := by simp [aW]
theorem e_add {N nE : Nat} (hN : 5 ≤ N) (hE : nE < 240) {LI : Nat → Int32} (LA : Nat → Nat → Int32) (LJ : Nat → Nat → Int64) (h : LI 2 = nI nE) (a b c d e : Int32) : f_X3_add N LI LA LJ a b c d e = some (upd LI 2 (nI (nE + 1)), aW LA 0 (put5 (LA 0) nE a b c d e), jS LJ 1 nE (lnkAt (put5 (LA 0) nE a b c d e) (LJ 1) nE)) := by
  unfold f_X3_add
  rw [h, x5, xa1, xa2, xa3, xa4, gd_t (by omega) (by decide), gd_t (by omega) (by decide), gd_t (by omega) (by decide), gd_t (by omega) (by decide), gd_t (by omega) (by decide), nI_clamp (by omega), nI_clamp (by omega), nI_clamp (by omega), nI_clamp (by omega), nI_clamp (by omega), aS5, e_linkDue hN hE, Option.bind_some, gd_t (by omega) (by decide), nI_clamp (by omega), xa1, aW_s]
theorem e_enter {N nE : Nat} (hN : 5 ≤ N) (hE : nE < 240) {I : Nat → Int32} (A : Nat → Nat → Int32) (J : Nat → Nat → Int64) (h : I 25 = nI nE) (a b c d : Int32) : f_X6_enter N I A J a b c d = some (upd I 25 (nI (nE + 1)), aW A 23 (put5 (A 23) nE a b c d (I 0)), jS J 24 nE (lnkAt (put5 (A 23) nE a b c d (I 0)) (J 24) nE)) := by
  unfold f_X6_enter
  rw [h, x5', xa1, xa2, xa3, xa4, gd_t (by omega) (by decide), gd_t (by omega) (by decide), gd_t (by omega) (by decide), gd_t (by omega) (by decide), gd_t (by omega) (by decide), nI_clamp (by omega), nI_clamp (by omega), nI_clamp (by omega), nI_clamp (by omega), nI_clamp (by omega), aS5, e_linkAt hN hE, Option.bind_some, gd_t (by omega) (by decide), nI_clamp (by omega), xa1, aW_s]
def Rl (LI : Nat → Int32) (LA : Nat → Nat → Int32) (LJ : Nat → Nat → Int64) (Mi : Nat → Int32) (Ma : Nat → Nat → Int32) (Mj : Nat → Nat → Int64) (nE : Nat) : Prop := nE ≤ 240 ∧ LI 2 = nI nE ∧ Mi 25 = nI nE ∧ (∀ i, i < nE * 5 → LA 0 i = Ma 23 i) ∧ (∀ i, i < nE → LJ 1 i = Mj 24 i)
theorem lnkAt_c {f f' : Nat → Int32} {g g' : Nat → Int64} {i n : Nat} (hi : i < n) (hf : ∀ j, j < n * 5 → f j = f' j) (hg : ∀ j, j + 1 < n → g j = g' j) : lnkAt f g i = lnkAt f' g' i := by
  unfold lnkAt
  rw [hf _ (by omega), hf _ (by omega), hf _ (by omega), hf _ (by omega), hf _ (by omega)]
  by_cases h0 : i = 0
  · rw [if_pos h0, if_pos h0]
  · rw [if_neg h0, if_neg h0, hg (i - 1) (by omega)]
/-- an entry more on both sides -/
theorem Rl_add {LI : Nat → Int32} {LA : Nat → Nat → Int32} {LJ : Nat → Nat → Int64} {Mi : Nat → Int32} {Ma : Nat → Nat → Int32} {Mj : Nat → Nat → Int64} {nE : Nat} (h : Rl LI LA LJ Mi Ma Mj nE) (hE : nE < 240) (a b c d e : Int32) :
    Rl (upd LI 2 (nI (nE + 1))) (aW LA 0 (put5 (LA 0) nE a b c d e)) (jS LJ 1 nE (lnkAt (put5 (LA 0) nE a b c d e) (LJ 1) nE)) (upd Mi 25 (nI (nE + 1))) (aW Ma 23 (put5 (Ma 23) nE a b c d e)) (jS Mj 24 nE (lnkAt (put5 (Ma 23) nE a b c d e) (Mj 24) nE)) (nE + 1) := by
  obtain ⟨h1, h2, h3, h4, h5⟩ := h
  have hp : ∀ j, j < (nE + 1) * 5 → put5 (LA 0) nE a b c d e j = put5 (Ma 23) nE a b c d e j := by
    intro j hj
    rcases Nat.lt_or_ge j (nE * 5) with q | q
    · rw [put5_lo q, put5_lo q, h4 j q]
    · exact put5_in q hj
  refine ⟨by omega, pk_us, pk_us, ?_, ?_⟩
  · intro i hi
    rw [aW_s, aW_s]
    exact hp i hi
  · intro i hi
    have e1 : ∀ x y, jS LJ 1 x y 1 = vp_updL (LJ 1) x y := fun x y => by simp [jS]
    have e2 : ∀ x y, jS Mj 24 x y 24 = vp_updL (Mj 24) x y := fun x y => by simp [jS]
    rw [e1, e2]
    by_cases q : i = nE
    · subst q
      rw [pk_uLs, pk_uLs]
      exact lnkAt_c (n := i + 1) (by omega) hp (fun j hj => h5 j (by omega))
    · rw [pk_uLn q, pk_uLn q]
      exact h5 i (by omega)
theorem lg0 (x y : Int64) : lg_cmp x y = 0 ↔ x = y := by
  unfold lg_cmp
  by_cases h : x > y
  · rw [if_pos h]
    exact ⟨fun z => absurd z (by decide), fun z => by subst z; exact absurd h (Int64.lt_irrefl)⟩
  · rw [if_neg h]
    by_cases h2 : x = y
    · simp [h2]
    · rw [if_neg h2]
      exact ⟨fun z => absurd z (by decide), fun z => absurd z h2⟩
/-- check(): both find the same -/
theorem e_check {LI : Nat → Int32} {LA : Nat → Nat → Int32} {LJ : Nat → Nat → Int64} {Mi : Nat → Int32} {Ma : Nat → Nat → Int32} {Mj : Nat → Nat → Int64} {nE N : Nat} (hN : 250 ≤ N) (h : Rl LI LA LJ Mi Ma Mj nE) : ∃ r, f_X3_firstWrong N LI LA LJ = some r ∧ f_X6_check N Mi Ma Mj = some r := by
  obtain ⟨h1, h2, h3, h4, h5⟩ := h
  have loop : ∀ d i n, i + d = nE → d < n → ∃ r, f_X3_firstWrong_2 N LI LA LJ n (nI i) = some r ∧ f_X6_check_2 N Mi Ma Mj n (nI i) = some r := by
    intro d
    induction d with
    | zero =>
      intro i n hi hn
      obtain ⟨n, rfl⟩ : ∃ k, n = k + 1 := ⟨n - 1, by omega⟩
      refine ⟨-1, ?_, ?_⟩
      · rw [f_X3_firstWrong_2, h2, if_pos (nI_le (by omega) (by omega))]
      · rw [f_X6_check_2, h3, if_pos (nI_le (by omega) (by omega))]
    | succ d ih =>
      intro i n hi hn
      obtain ⟨n, rfl⟩ : ∃ k, n = k + 1 := ⟨n - 1, by omega⟩
      have hlt : i < nE := by omega
      have e : lnkAt (Ma 23) (Mj 24) i = lnkAt (LA 0) (LJ 1) i := (lnkAt_c (n := nE) hlt h4 (fun j hj => h5 j (by omega))).symm
      rw [f_X3_firstWrong_2, h2, if_neg (nI_ge hlt (by omega)), gd_t (by omega) (by decide), e_linkDue (by omega) (by omega), Option.bind_some, nI_clamp (by omega)]
      rw [f_X6_check_2, h3, if_neg (nI_ge hlt (by omega)), e_linkAt (by omega) (by omega), Option.bind_some, gd_t (by omega) (by decide), nI_clamp (by omega), e, ← h5 i hlt]
      by_cases q : LJ 1 i = lnkAt (LA 0) (LJ 1) i
      · rw [if_pos ((lg0 _ _).mpr q), if_pos ((lg0 _ _).mpr q.symm), xa1]
        exact ih (i + 1) n (by omega) (by omega)
      · rw [if_neg (fun z => q ((lg0 _ _).mp z)), if_neg (fun z => q ((lg0 _ _).mp z).symm)]
        exact ⟨_, rfl, rfl⟩
  exact loop nE 0 N (by omega) (by omega)
