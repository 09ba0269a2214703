/-! perform: both sides together -/
theorem e_stick {N a u : Nat} (ha : a < 6) (b1 b2 : Bool) {D ki RL : Nat → Int32} {ka : Nat → Nat → Int32} (hD : D a = -1) (h1 : f_X0_couldEnd N D ki ka RL = some (bB b1)) (h2 : f_X0_couldEnd N (upd D a (nI u)) ki ka RL = some (bB b2)) : f_X0_wouldStick N D ki ka RL (nI a) (nI u) = some (bB (b1 && !b2), D, ki, ka, RL) := by
  have e : upd (upd D a (nI u)) a (-1) = D := by rw [upd_upd, ← hD, upd_self]
  unfold f_X0_wouldStick
  rw [nI_clamp (by omega), h1, Option.bind_some, h2]
  simp only [gd_t ha (show (6 : Nat) < 2 ^ 31 by decide), Option.bind_some, e]
  cases b1 <;> cases b2 <;> rfl
/-- the class's part -/
theorem e_perf5 {N T m a u r c nE : Nat} (hN : 250 ≤ N) (hT : T ≤ 6) (hm : m ≤ 6) (ha : a < T) (hu : u < 12) (hr8 : r < 8) {I D ki R LI : Nat → Int32} {ka LA : Nat → Nat → Int32} {LJ : Nat → Nat → Int64} {P Q : Nat → Int32} (h4 : ki 4 = nI T) (h5 : ki 5 = nI m) (hr : ka 0 a = nI r) (hb : ∀ i, bI (ka 1 a) i = true → i < a) (p2 : PM (ka 2) P T) (p3 : PM (ka 3) Q T)
    (hl : LI 2 = nI nE) (hE : nE ≤ 240) (b1 b2 : Bool) (h1 : f_X0_couldEnd N D ki ka R = some (bB b1)) (h2 : f_X0_couldEnd N (upd D a (nI u)) ki ka R = some (bB b2)) :
    f_X5_perform_12 N I D ki ka R LI LA LJ (nI a) (nI c) (nI u) = if ¬ whyP T m a u D (ka 1 a) (R u) r P Q = 0 then some (whyP T m a u D (ka 1 a) (R u) r P Q, I, D, ki, ka, R, LI, LA, LJ) else if (b1 && !b2) = true then some (-22, I, D, ki, ka, R, LI, LA, LJ) else if nE = 240 then some (-3, I, D, ki, ka, R, LI, LA, LJ) else some (nI (cnt (fun t => decide (upd D a (nI u) t = -1)) T), I, upd D a (nI u), ki, ka, R, upd LI 2 (nI (nE + 1)), aW LA 0 (put5 (LA 0) nE 5 (nI u) ((8 : Int32) * nI c + nI a) 0 (I 8)), jS LJ 1 nE (lnkAt (put5 (LA 0) nE 5 (nI u) ((8 : Int32) * nI c + nI a) 0 (I 8)) (LJ 1) nE)) := by
  unfold f_X5_perform_12 f_X2_hasTask
  rw [h4, e_isBelow, Option.bind_some, gp_t bZ01, Option.bind_some, isIn ha (by omega), if_neg one_ne, e_isUser5, Option.bind_some, isIn hu (by decide), if_neg one_ne, e_verdict (by omega) hT hm ha hu hr8 h4 h5 hr hb p2 p3]
  by_cases c1 : whyP T m a u D (ka 1 a) (R u) r P Q = 0
  · have v1 : ¬ ¬ whyP T m a u D (ka 1 a) (R u) r P Q = 0 := fun z => z c1
    have hDa : D a = -1 := by
      by_cases z : D a = -1
      · exact z
      · unfold whyP at c1
        rw [if_pos z] at c1
        exact absurd c1 (by decide)
    rw [if_pos c1, if_neg v1, e_stick (by omega) b1 b2 hDa h1 h2, Option.bind_some]
    by_cases c2 : (b1 && !b2) = true
    · have g2 : ¬ bB (b1 && !b2) = 0 := by rw [c2]; decide
      simp only [if_neg g2, if_pos c2, Option.bind_some, if_neg (show ¬ (-22 : Int32) = 0 by decide)]
    · have g2 : bB (b1 && !b2) = 0 := by rw [Bool.eq_false_iff.mpr c2]; rfl
      simp only [if_pos g2, if_neg c2, Option.bind_some, if_true, e_full3 LA LJ hl hE]
      by_cases c3 : nE = 240
      · have g3 : ¬ bZ (nE = 240) = 0 := by rw [bZ_t c3]; decide
        simp only [if_neg g3, if_pos c3]
      · have g3 : bZ (nE = 240) = 0 := bZ_f c3
        have hp := msk_64 (fun t => decide (upd D a (nI u) t = -1)) hT
        simp only [if_pos g3, if_neg c3, gd_t (show a < 6 by omega) (show (6 : Nat) < 2 ^ 31 by decide), nI_clamp (show a < 2 ^ 31 by omega), e_add (show 5 ≤ N by omega) (show nE < 240 by omega) LA LJ hl, e_left (show 7 ≤ N by omega) hT (upd D a (nI u)) ka R h4, e_pop _ hp, pop_msk _ hT, Option.bind_some]
  · have v1 : ¬ whyP T m a u D (ka 1 a) (R u) r P Q = 0 := c1
    rw [if_neg c1, if_pos v1, Option.bind_some]
    simp only [if_neg c1]
/-- the reference's part -/
theorem e_perf6 {N T m a u r c k nE : Nat} (hN : 250 ≤ N) (hT : T ≤ 6) (hm : m ≤ 6) (ha : a < T) (hu : u < 12) (hr8 : r < 8) (hc : c < 16) (hk : k < 4) {D Mi : Nat → Int32} {Ma : Nat → Nat → Int32} {Mj : Nat → Nat → Int64} {x rl : Int32}
    (h22 : f_X6_isTask Mi Ma Mj (nI a) (nI c) = some 1) (h20 : Ma 20 c = nI k) (h13 : Ma 13 k = nI T) (h18 : Ma 18 k = nI m) (h14 : Ma 14 (6 * k + a) = nI r) (h15 : Ma 15 (6 * k + a) = x) (h1u : Ma 1 u = rl) (hD : ∀ t, t < 6 → D t = Ma 21 (6 * c + t) ∧ (D t = -1 ∨ ∃ v, v < 12 ∧ D t = nI v))
    (hl : Mi 25 = nI nE) (hE : nE ≤ 240) (b1 b2 : Bool) (g1 g2 : Nat → Int32) (h1 : f_X6_canBe N Mi Ma Mj (nI c) = some (bB b1, Mi, aW Ma 26 g1, Mj)) (h2 : f_X6_canBe N Mi (aS (aW Ma 26 g1) 21 (6 * c + a) (nI u)) Mj (nI c) = some (bB b2, Mi, aW (aS (aW Ma 26 g1) 21 (6 * c + a) (nI u)) 26 g2, Mj)) :
    f_X6_perform N Mi Ma Mj (nI a) (nI c) (nI u) = if ¬ whyP T m a u D x rl r (fun q => Ma 16 (36 * k + q)) (fun q => Ma 17 (36 * k + q)) = 0 then some (whyP T m a u D x rl r (fun q => Ma 16 (36 * k + q)) (fun q => Ma 17 (36 * k + q)), Mi, Ma, Mj) else if (b1 && !b2) = true then some (-22, Mi, aW Ma 26 g2, Mj) else if nE = 240 then some (-3, Mi, aW Ma 26 g2, Mj) else some (nI (cnt (fun t => decide (upd D a (nI u) t = -1)) T), upd Mi 25 (nI (nE + 1)), aW (aW (aS (aW Ma 26 g1) 21 (6 * c + a) (nI u)) 26 g2) 23 (put5 (Ma 23) nE 5 (nI u) ((8 : Int32) * nI c + nI a) 0 (Mi 0)), jS Mj 24 nE (lnkAt (put5 (Ma 23) nE 5 (nI u) ((8 : Int32) * nI c + nI a) 0 (Mi 0)) (Mj 24) nE)) := by
  have e6 : (6 : Int32) * nI c = nI (6 * c) := by rw [show (6 : Int32) = nI 6 from rfl, pk_mul]
  have e6k : (6 : Int32) * nI k = nI (6 * k) := by rw [show (6 : Int32) = nI 6 from rfl, pk_mul]
  obtain ⟨d1, d2⟩ := hD a (by omega)
  unfold f_X6_perform
  rw [h22, Option.bind_some, if_neg one_ne, e_isUser6, Option.bind_some, isIn hu (by decide), if_neg one_ne, gd_t hc (by decide), nI_clamp (show c < 2 ^ 31 by omega), h20, gd_t hk (by decide), nI_clamp (show k < 2 ^ 31 by omega), h13, e6, xa, gd_t (show 6 * c + a < 96 by omega) (by decide), nI_clamp (show 6 * c + a < 2 ^ 31 by omega), ← d1]
  by_cases c1 : D a = -1
  · have v1 : ¬ ¬ D a = -1 := fun z => z c1
    rw [c1, if_pos (show (-1 : Int32) < 0 by decide)]
    obtain ⟨n, rfl⟩ : ∃ n, N = (n + 1) + T := ⟨N - T - 1, by omega⟩
    have st := e75_all hk (show a < 6 by omega) hT hc (n + 1 + T) Mi Ma Mj (u := u) hD h15 T 0 (n + 1) (by omega)
    have st : f_X6_perform_75 (n + 1 + T) (n + 1 + T) Mi Ma Mj (nI a) (nI c) (nI u) (nI k) (nI (6 * c)) (nI T) 0 0 0 0 0 0 = _ := st
    rw [st, f_X6_perform_75, if_pos (Int32.le_refl _)]
    unfold whyP
    simp only [if_neg v1, gd_t hu (show (12 : Nat) < 2 ^ 31 by decide), nI_clamp (show u < 2 ^ 31 by omega), e6k, xa, gd_t (show 6 * k + a < 24 by omega) (show (24 : Nat) < 2 ^ 31 by decide), nI_clamp (show 6 * k + a < 2 ^ 31 by omega), h14, h1u, gd_t hk (show (4 : Nat) < 2 ^ 31 by decide), nI_clamp (show k < 2 ^ 31 by omega), h18, xa1]
    by_cases c2 : anyB (qE D x) T = true
    · have gx : ¬ bB (anyB (qE D x) T) = 0 := by rw [c2]; decide
      simp only [if_pos c2, if_neg gx, if_pos (show ¬ (-17 : Int32) = 0 by decide)]
    · have g2' : bB (anyB (qE D x) T) = 0 := by rw [Bool.eq_false_iff.mpr c2]; rfl
      simp only [if_neg c2, if_pos g2']
      by_cases c3 : bI rl r = true
      · have v3 : ¬ ¬ bI rl r = true := fun z => z c3
        have g3 : ¬ (rl >>> (nI r &&& 31)) &&& 1 = 0 := fun z => by have := (hb_s (by omega) _).mp z; rw [c3] at this; cases this
        simp only [if_neg v3, if_neg g3]
        by_cases c4 : anyB (qA D (fun q => Ma 16 (36 * k + q)) a u) T = true
        · have gx : ¬ bB (anyB (qA D (fun q => Ma 16 (36 * k + q)) a u) T) = 0 := by rw [c4]; decide
          simp only [if_pos c4, if_neg gx, if_pos (show ¬ (-19 : Int32) = 0 by decide)]
        · have g4 : bB (anyB (qA D (fun q => Ma 16 (36 * k + q)) a u) T) = 0 := by rw [Bool.eq_false_iff.mpr c4]; rfl
          simp only [if_neg c4, if_pos g4]
          by_cases c5 : anyB (qO D (fun q => Ma 17 (36 * k + q)) a u) T = true
          · have gx : ¬ bB (anyB (qO D (fun q => Ma 17 (36 * k + q)) a u) T) = 0 := by rw [c5]; decide
            simp only [if_pos c5, if_neg gx, if_pos (show ¬ (-20 : Int32) = 0 by decide)]
          · have g5 : bB (anyB (qO D (fun q => Ma 17 (36 * k + q)) a u) T) = 0 := by rw [Bool.eq_false_iff.mpr c5]; rfl
            simp only [if_neg c5, if_pos g5]
            have hcl := cnt_le (fun t => decide (D t = nI u)) T
            by_cases c6 : cnt (fun t => decide (D t = nI u)) T < m
            · have g6 : nI (cnt (fun t => decide (D t = nI u)) T + 1) ≤ nI m := nI_le (by omega) (by omega)
              have v0 : ¬ ¬ (0 : Int32) = 0 := fun z => z rfl
              have rst : aS (aW (aS (aW Ma 26 g1) 21 (6 * c + a) (nI u)) 26 g2) 21 (6 * c + a) (-1) = aW Ma 26 g2 := by
                funext j
                by_cases z : j = 21
                · subst z
                  show upd (upd (Ma 21) (6 * c + a) (nI u)) (6 * c + a) (-1) = Ma 21
                  rw [upd_upd, ← c1, d1, upd_self]
                · unfold aS aW
                  by_cases z2 : j = 26 <;> simp [z, z2]
              have cn : nI (cnt (fun t => decide (D t = -1)) T) - 1 = nI (cnt (fun t => decide (upd D a (nI u) t = -1)) T) := by
                rw [cnt_rm (q := fun t => decide (D t = -1)) (q' := fun t => decide (upd D a (nI u) t = -1)) (a := a) (decide_eq_true c1) (by rw [pk_us]; exact decide_eq_false (nm1 (by omega))) (fun i hi => by rw [pk_un hi]) T ha]
                exact nI_pred _
              simp only [if_pos g6, if_pos c6, if_neg v0, h1, Option.bind_some, gd_t (show 6 * c + a < 96 by omega) (show (96 : Nat) < 2 ^ 31 by decide), nI_clamp (show 6 * c + a < 2 ^ 31 by omega), h2]
              unfold f_X6_perform_358 f_X6_perform_368
              simp only [xa, gd_t (show 6 * c + a < 96 by omega) (show (96 : Nat) < 2 ^ 31 by decide), nI_clamp (show 6 * c + a < 2 ^ 31 by omega), rst, cn, hl, eq240 hE]
              by_cases c7 : nE = 240
              · simp only [if_pos c7]
                cases b1 <;> cases b2 <;> rfl
              · simp only [if_neg c7, e_enter (show 5 ≤ n + 1 + T by omega) (show nE < 240 by omega) _ Mj hl, Option.bind_some]
                cases b1 <;> cases b2 <;> rfl
            · have g6 : ¬ nI (cnt (fun t => decide (D t = nI u)) T + 1) ≤ nI m := nI_ge (by omega) (by omega)
              simp only [if_neg g6, if_neg c6, if_pos (show ¬ (-21 : Int32) = 0 by decide)]
      · have g3 : (rl >>> (nI r &&& 31)) &&& 1 = 0 := (hb_s (by omega) _).mpr (by simpa using c3)
        simp only [if_pos c3, if_pos g3, if_pos (show ¬ (-18 : Int32) = 0 by decide)]
  · have g1' : ¬ D a < 0 := by
      obtain ⟨v, hv, z⟩ := d2.resolve_left c1
      rw [z]; exact nI_pos (by omega)
    unfold whyP
    simp only [if_neg g1', if_pos c1, if_pos (show ¬ (-16 : Int32) = 0 by decide)]
theorem m_perform {I : Nat → Int32} {R : Nat → Int32} {WI : Nat → Int32} {WA : Nat → Nat → Int32} {GI : Nat → Int32} {GA : Nat → Nat → Int32} {LI : Nat → Int32} {LA : Nat → Nat → Int32} {LJ : Nat → Nat → Int64} {nK : Nat} {nC : Nat} {KI : Nat → Nat → Int32} {KA : Nat → Nat → Nat → Int32} {CK : Nat → Nat} {CD : Nat → Nat → Int32} {Mi : Nat → Int32} {Ma : Nat → Nat → Int32} {Mj : Nat → Nat → Int64} (a1 a2 a3 : Int32) (h : Rel I R WI WA GI GA LI LA LJ nK nC KI KA CK CD Mi Ma Mj) : ∃ (N : Nat) (r : Int32) (I' : Nat → Int32) (KI' : Nat → Nat → Int32) (KA' : Nat → Nat → Nat → Int32) (CD' : Nat → Nat → Int32) (R' : Nat → Int32) (LI' : Nat → Int32) (LA' : Nat → Nat → Int32) (LJ' : Nat → Nat → Int64) (Mi' : Nat → Int32) (Ma' : Nat → Nat → Int32) (Mj' : Nat → Nat → Int64), f_X5_perform N I R WI WA GI GA LI LA LJ nK nC KI KA CK CD a1 a2 a3 = some (r, I', KI', KA', CD', R', LI', LA', LJ') ∧ f_X6_perform N Mi Ma Mj a1 a2 a3 = some (r, Mi', Ma', Mj') ∧ Rel (I') (R') WI WA GI GA (LI') (LA') (LJ') nK nC (KI') (KA') CK (CD') (Mi') (Ma') (Mj') := by
  have h' := h
  obtain ⟨nF, nO, nG, nE, hb, hw, hg, hl, hk, hc⟩ := h
  have same : ∀ (N : Nat) (r : Int32) (Ma' : Nat → Nat → Int32), Rel I R WI WA GI GA LI LA LJ nK nC KI KA CK CD Mi (Ma') Mj → f_X5_perform N I R WI WA GI GA LI LA LJ nK nC KI KA CK CD a1 a2 a3 = some (r, I, KI, KA, CD, R, LI, LA, LJ) → f_X6_perform N Mi Ma Mj a1 a2 a3 = some (r, Mi, Ma', Mj) → ∃ (N : Nat) (r : Int32) (I' : Nat → Int32) (KI' : Nat → Nat → Int32) (KA' : Nat → Nat → Nat → Int32) (CD' : Nat → Nat → Int32) (R' : Nat → Int32) (LI' : Nat → Int32) (LA' : Nat → Nat → Int32) (LJ' : Nat → Nat → Int64) (Mi' : Nat → Int32) (Ma' : Nat → Nat → Int32) (Mj' : Nat → Nat → Int64), f_X5_perform N I R WI WA GI GA LI LA LJ nK nC KI KA CK CD a1 a2 a3 = some (r, I', KI', KA', CD', R', LI', LA', LJ') ∧ f_X6_perform N Mi Ma Mj a1 a2 a3 = some (r, Mi', Ma', Mj') ∧ Rel (I') (R') WI WA GI GA (LI') (LA') (LJ') nK nC (KI') (KA') CK (CD') (Mi') (Ma') (Mj') :=
    fun N r Ma' z x y => ⟨N, r, I, KI, KA, CD, R, LI, LA, LJ, Mi, Ma', Mj, x, y, z⟩
  rcases e_task Mj hk hc a1 a2 with ⟨z1, z2⟩ | ⟨c, T, hcn, rfl, z1, t6, q4, z2⟩
  · refine same 250 (-2) Ma h' ?_ ?_
    · unfold f_X5_perform; rw [z1]
    · unfold f_X6_perform; rw [z2, Option.bind_some, if_pos zero_t]
  · have open5 : ∀ N, f_X5_perform N I R WI WA GI GA LI LA LJ nK nC KI KA CK CD a1 (nI c) a3 = (f_X5_perform_12 N I (CD c) (KI (CK c)) (KA (CK c)) R LI LA LJ a1 (nI c) a3).bind (fun x => some (x.1, x.2.1, uN KI (CK c) x.2.2.2.1, uN KA (CK c) x.2.2.2.2.1, uN CD c x.2.2.1, x.2.2.2.2.2.1, x.2.2.2.2.2.2.1, x.2.2.2.2.2.2.2.1, x.2.2.2.2.2.2.2.2)) := by
      intro N; unfold f_X5_perform; rw [z1]
    by_cases w1 : 0 ≤ a1 ∧ a1 < nI T
    · obtain ⟨a, ha, rfl⟩ := ofIn (by omega) w1
      by_cases w2 : 0 ≤ a3 ∧ a3 < nI 12
      · obtain ⟨u, hu, rfl⟩ := ofIn (by decide) w2
        obtain ⟨y1, y2, y3⟩ := hc.2.2.2.1 c hcn
        have hc16 : c < 16 := by have := hc.1; omega
        have hk4 : CK c < 4 := by have := hk.1; omega
        have hX := hk.2.2.2.1 (CK c) y1
        have hX' := hX
        obtain ⟨T', t6', q4', q13, ⟨m, m1, m6, m5, m18⟩, kj, p2, p3⟩ := hX'
        have hTT : T' = T := (nI_eq (by omega) (by omega)).mp (q4'.symm.trans q4)
        subst hTT
        obtain ⟨j1, ⟨r, r8, j2⟩, j3, j4⟩ := kj a ha
        obtain ⟨l1, l2, l3, l4, l5⟩ := id hl
        obtain ⟨b1, cc1, g1, e1⟩ := e_ends Mi Mj hc16 hk4 y2 hX y3 hb.2
        have y3' : ∀ t, t < 6 → upd (CD c) a (nI u) t = (aS (aW Ma 26 g1) 21 (6 * c + a) (nI u)) 21 (6 * c + t) ∧ (upd (CD c) a (nI u) t = -1 ∨ ∃ v, v < 12 ∧ upd (CD c) a (nI u) t = nI v) := by
          intro t ht
          show upd (CD c) a (nI u) t = upd (Ma 21) (6 * c + a) (nI u) (6 * c + t) ∧ _
          by_cases z : t = a
          · subst z; rw [pk_us, pk_us]; exact ⟨rfl, Or.inr ⟨u, hu, rfl⟩⟩
          · rw [pk_un z, pk_un (by omega)]; exact y3 t ht
        obtain ⟨b2, cc2, g2, e2⟩ := e_ends (D := upd (CD c) a (nI u)) (Ma := aS (aW Ma 26 g1) 21 (6 * c + a) (nI u)) Mi Mj hc16 hk4 y2 hX y3' hb.2
        obtain ⟨s1, s2⟩ := e1 (cc1 + cc2 + 250) (by omega)
        obtain ⟨s3, s4⟩ := e2 (cc1 + cc2 + 250) (by omega)
        have f5 := e_perf5 (I := I) (c := c) (P := fun q => Ma 16 (36 * CK c + q)) (Q := fun q => Ma 17 (36 * CK c + q)) (LA := LA) (LJ := LJ) (N := cc1 + cc2 + 250) (by omega) t6 m6 ha hu r8 q4 m5 j2 j4 p2 p3 l2 l1 b1 b2 s1 s3
        have f6 := e_perf6 (N := cc1 + cc2 + 250) (by omega) t6 m6 ha hu r8 hc16 hk4 (x := KA (CK c) 1 a) (rl := R u) (by rw [z2, bZ_t w1]) y2 q13 m18 (by rw [← j1, j2]) j3.symm (hb.2 u hu).symm y3 l3 l1 b1 b2 g1 g2 s2 s4
        have f5' := open5 (cc1 + cc2 + 250)
        rw [f5, hb.1] at f5'
        by_cases x1 : whyP T' m a u (CD c) (KA (CK c) 1 a) (R u) r (fun q => Ma 16 (36 * CK c + q)) (fun q => Ma 17 (36 * CK c + q)) = 0
        · have v1 : ¬ ¬ whyP T' m a u (CD c) (KA (CK c) 1 a) (R u) r (fun q => Ma 16 (36 * CK c + q)) (fun q => Ma 17 (36 * CK c + q)) = 0 := fun z => z x1
          rw [if_neg v1] at f5' f6
          by_cases x2 : (b1 && !b2) = true
          · rw [if_pos x2] at f5' f6
            rw [Option.bind_some] at f5'
            simp only [uN_self] at f5'
            exact same _ (-22) _ (Rel_26 g2 h') f5' f6
          · rw [if_neg x2] at f5' f6
            by_cases x3 : nE = 240
            · rw [if_pos x3] at f5' f6
              rw [Option.bind_some] at f5'
              simp only [uN_self] at f5'
              exact same _ (-3) _ (Rel_26 g2 h') f5' f6
            · rw [if_neg x3] at f5' f6
              rw [Option.bind_some] at f5'
              simp only [uN_self] at f5'
              have hl2 : Rl LI LA LJ Mi (aW (aS (aW Ma 26 g1) 21 (6 * c + a) (nI u)) 26 g2) Mj nE := hl
              refine ⟨_, _, _, _, _, _, _, _, _, _, _, _, _, f5', f6, nF, nO, nG, nE + 1, hb, hw, hg, Rl_add hl2 (by omega) _ _ _ _ _, hk, ⟨hc.1, hc.2.1, hc.2.2.1, fun c' hc' => ?_, hc.2.2.2.2⟩⟩
              obtain ⟨o1, o2, o3⟩ := hc.2.2.2.1 c' hc'
              refine ⟨o1, o2, fun t ht => ?_⟩
              show uN CD c (upd (CD c) a (nI u)) c' t = upd (Ma 21) (6 * c + a) (nI u) (6 * c' + t) ∧ (uN CD c (upd (CD c) a (nI u)) c' t = -1 ∨ ∃ v, v < 12 ∧ uN CD c (upd (CD c) a (nI u)) c' t = nI v)
              by_cases z : c' = c
              · subst z
                rw [uN_s]
                exact y3' t ht
              · rw [uN_n _ _ z, pk_un (by omega)]
                exact o3 t ht
        · rw [if_pos x1] at f5' f6
          rw [Option.bind_some] at f5'
          simp only [uN_self] at f5'
          exact same _ _ Ma h' f5' f6
      · refine same 250 (-2) Ma h' ?_ ?_
        · rw [open5]
          unfold f_X5_perform_12 f_X2_hasTask
          rw [q4, e_isBelow, Option.bind_some, gp_t bZ01, Option.bind_some, isIn ha (by omega), if_neg one_ne, e_isUser5, Option.bind_some, notIn w2, if_pos zero_t, Option.bind_some]
          simp only [uN_self]
        · unfold f_X6_perform
          rw [z2, bZ_t w1, Option.bind_some, if_neg one_ne, e_isUser6, Option.bind_some, notIn w2, if_pos zero_t]
    · refine same 250 (-2) Ma h' ?_ ?_
      · rw [open5]
        unfold f_X5_perform_12 f_X2_hasTask
        rw [q4, e_isBelow, Option.bind_some, gp_t bZ01, Option.bind_some, notIn w1, if_pos zero_t, Option.bind_some]
        simp only [uN_self]
      · unfold f_X6_perform
        rw [z2, notIn w1, Option.bind_some, if_pos zero_t]
