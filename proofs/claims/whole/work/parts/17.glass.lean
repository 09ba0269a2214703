/-! glasses, the record's answers, the counts -/
theorem out3 {a : Int32} (h0 : ¬ a = 0) (h1 : ¬ a = 1) (h2 : ¬ a = 2) (h3 : ¬ a = 3) : bZ (0 ≤ a ∧ a ≤ 3) = 0 := bZ_f (fun z => by
  obtain ⟨j, hj, rfl⟩ := nI_of2 (n := 3) (M := 3) (by decide) (Int32.not_lt.mpr z.1) z.2
  rcases (show j = 0 ∨ j = 1 ∨ j = 2 ∨ j = 3 by omega) with rfl | rfl | rfl | rfl
  · exact h0 (by decide)
  · exact h1 (by decide)
  · exact h2 (by decide)
  · exact h3 (by decide))
theorem out4 {a : Int32} (h0 : ¬ a = 0) (h1 : ¬ a = 1) (h2 : ¬ a = 2) (h3 : ¬ a = 3) (h4 : ¬ a = 4) : bZ (0 ≤ a ∧ a ≤ 4) = 0 := bZ_f (fun z => by
  obtain ⟨j, hj, rfl⟩ := nI_of2 (n := 4) (M := 4) (by decide) (Int32.not_lt.mpr z.1) z.2
  rcases (show j = 0 ∨ j = 1 ∨ j = 2 ∨ j = 3 ∨ j = 4 by omega) with rfl | rfl | rfl | rfl | rfl
  · exact h0 (by decide)
  · exact h1 (by decide)
  · exact h2 (by decide)
  · exact h3 (by decide)
  · exact h4 (by decide))
theorem e_has1 {GI : Nat → Int32} (GA : Nat → Nat → Int32) {nG : Nat} (h : GI 4 = nI nG) (a : Int32) : f_X1_has GI GA a = some (bZ (0 ≤ a ∧ a < nI nG)) := by
  unfold f_X1_has
  rw [h, e_isBelow, Option.bind_some, gp_t bZ01]
theorem e_hasE {LI : Nat → Int32} (LA : Nat → Nat → Int32) (LJ : Nat → Nat → Int64) {nE : Nat} (h : LI 2 = nI nE) (a : Int32) : f_X3_hasEntry LI LA LJ a = some (bZ (0 ≤ a ∧ a < nI nE)) := by
  unfold f_X3_hasEntry
  rw [h, e_isBelow, Option.bind_some, gp_t bZ01]
theorem e_hasC {LI : Nat → Int32} (LA : Nat → Nat → Int32) (LJ : Nat → Nat → Int64) {nE : Nat} (h : LI 2 = nI nE) (a b : Int32) : f_X3_hasCell LI LA LJ a b = some (bZ ((0 ≤ a ∧ a < nI nE) ∧ (0 ≤ b ∧ b < nI 5))) := by
  unfold f_X3_hasCell
  rw [e_hasE LA LJ h, Option.bind_some]
  by_cases c1 : 0 ≤ a ∧ a < nI nE
  · rw [bZ_t c1, if_neg one_ne, show f_X5_isBelow b 5 = some (bZ (0 ≤ b ∧ b < nI 5)) from e_isBelow _ _, Option.bind_some]
    by_cases c2 : 0 ≤ b ∧ b < nI 5
    · rw [bZ_t c2, if_neg one_ne, bZ_t ⟨c1, c2⟩]
    · rw [bZ_f c2, if_pos zero_t, bZ_f (fun z => c2 z.2)]
  · rw [bZ_f c1, if_pos zero_t, bZ_f (fun z => c1 z.1)]
theorem e_hasM {N : Nat} (Mi : Nat → Int32) (b : Int32) : f_X6_isIn b 0 4 = some (bZ (0 ≤ b ∧ b < nI 5)) := e_in0 b (n := 5) (by decide)

theorem m_glass {N : Nat} (hN : 250 ≤ N) {I : Nat → Int32} {R : Nat → Int32} {WI : Nat → Int32} {WA : Nat → Nat → Int32} {GI : Nat → Int32} {GA : Nat → Nat → Int32} {LI : Nat → Int32} {LA : Nat → Nat → Int32} {LJ : Nat → Nat → Int64} {nK : Nat} {nC : Nat} {KI : Nat → Nat → Int32} {KA : Nat → Nat → Nat → Int32} {CK : Nat → Nat} {CD : Nat → Nat → Int32} {Mi : Nat → Int32} {Ma : Nat → Nat → Int32} {Mj : Nat → Nat → Int64} (a1 : Int32) (a2 : Int32) (a3 : Int32) (h : Rel I R WI WA GI GA LI LA LJ nK nC KI KA CK CD Mi Ma Mj) : ∃ (r : Int32) (I' : Nat → Int32) (R' : Nat → Int32) (WI' : Nat → Int32) (WA' : Nat → Nat → Int32) (GI' : Nat → Int32) (GA' : Nat → Nat → Int32) (LI' : Nat → Int32) (LA' : Nat → Nat → Int32) (LJ' : Nat → Nat → Int64) (Mi' : Nat → Int32) (Ma' : Nat → Nat → Int32) (Mj' : Nat → Nat → Int64), 
    f_X5_glass N I R WI WA GI GA LI LA LJ a1 a2 a3 = some (r, I', R', WI', WA', GI', GA', LI', LA', LJ') ∧ f_X6_glass N Mi Ma Mj a1 a2 a3 = some (r, Mi', Ma', Mj') ∧ Rel I' R' WI' WA' GI' GA' LI' LA' LJ' nK nC KI KA CK CD Mi' Ma' Mj' := by
  obtain ⟨nF, nO, nG, nE, hb, hw, hg, hl, hk, hc⟩ := h
  have hw' := hw
  obtain ⟨w1, w2, w3, w4, w5, w6, w7, w8, w9, w10⟩ := hw'
  have hl' := hl
  obtain ⟨l1, l2, l3, l4, l5⟩ := hl'
  have hg' := hg
  obtain ⟨g1, g2, g3, g4⟩ := hg'
  unfold f_X5_glass f_X6_glass
  rw [e_isUser5, e_isUser6, Option.bind_some, Option.bind_some]
  by_cases c1 : 0 ≤ a1 ∧ a1 < nI 12
  · obtain ⟨u, hu, rfl⟩ := ofIn (by decide) c1
    unfold f_X4_hasFirm
    rw [isIn hu (by decide), if_neg one_ne, if_neg one_ne, w3, w4, e_isBelow, e_in0 _ (by omega), Option.bind_some, Option.bind_some, gp_t bZ01, Option.bind_some]
    by_cases c2 : 0 ≤ a2 ∧ a2 < nI nF
    · obtain ⟨f, hf, rfl⟩ := ofIn (by omega) c2
      rw [isIn hf (by omega), if_neg one_ne, if_neg one_ne, e_isIn, Option.bind_some]
      by_cases c3 : a3 < 1
      · rw [if_pos c3, bZ_f (fun z => absurd z.1 (Int32.not_le.mpr c3)), if_pos zero_t]
        exact ⟨-2, I, R, WI, WA, GI, GA, LI, LA, LJ, Mi, Ma, Mj, rfl, rfl, nF, nO, nG, nE, hb, hw, hg, hl, hk, hc⟩
      · rw [if_neg c3]
        by_cases c4 : a3 ≤ 100
        · obtain ⟨b, v1, v2, v3⟩ := e_walled Mj hN hw hu hf
          rw [if_pos c4, bZ_t ⟨Int32.not_lt.mp c3, c4⟩, if_neg one_ne, v1, v2, Option.bind_some, Option.bind_some]
          cases b with
          | true =>
            rw [show bB true = 1 from rfl, if_neg one_ne, show bB (!true) = 0 from rfl, if_pos zero_t]
            exact ⟨-13, I, R, WI, WA, GI, GA, LI, LA, LJ, Mi, Ma, Mj, rfl, rfl, nF, nO, nG, nE, hb, hw, hg, hl, hk, hc⟩
          | false =>
            rw [show bB false = 0 from rfl, if_pos zero_t, show bB (!false) = 1 from rfl, if_neg one_ne, hb.1]
            obtain ⟨z, z1, z2, z3⟩ := e_runs Mj hN hg (nI u) (nI f)
            rw [z1, z2, Option.bind_some, Option.bind_some]
            cases z with
            | true =>
              rw [show bB true = 1 from rfl, if_neg one_ne, if_neg one_ne]
              exact ⟨-14, I, R, WI, WA, GI, GA, LI, LA, LJ, Mi, Ma, Mj, rfl, rfl, nF, nO, nG, nE, hb, hw, hg, hl, hk, hc⟩
            | false =>
              rw [show bB false = 0 from rfl, if_pos zero_t, if_pos zero_t]
              obtain ⟨r, r1, r2⟩ := e_duties Mj hN hg (nI u)
              rw [r1, r2, Option.bind_some, Option.bind_some]
              by_cases c5 : 3 ≤ r
              · rw [if_pos c5, if_pos c5]
                exact ⟨-15, I, R, WI, WA, GI, GA, LI, LA, LJ, Mi, Ma, Mj, rfl, rfl, nF, nO, nG, nE, hb, hw, hg, hl, hk, hc⟩
              · rw [if_neg c5, if_neg c5]
                obtain ⟨x, x1, x2⟩ := e_late Mj hN hg (nI u)
                rw [x1, x2, Option.bind_some, Option.bind_some]
                by_cases c6 : x = 0
                · rw [if_pos c6, if_pos c6]
                  unfold f_X1_isFull
                  rw [g2, g3]
                  by_cases c7 : nG = 40
                  · subst c7
                    rw [if_neg (show ¬ nI 40 < 40 by decide), Option.bind_some, if_neg one_ne, if_pos (show nI 40 = 40 from rfl)]
                    exact ⟨-3, I, R, WI, WA, GI, GA, LI, LA, LJ, Mi, Ma, Mj, rfl, rfl, nF, nO, _, nE, hb, hw, hg, hl, hk, hc⟩
                  · have hlt : nG < 40 := by omega
                    rw [if_pos (show nI nG < 40 from (nI_ltI (b := 40) (by omega) (by decide)).mpr hlt), Option.bind_some, if_pos zero_t, if_neg (show ¬ nI nG = 40 from fun z => c7 ((nI_eq (b := 40) (by omega) (by decide)).mp z)), e_full3 LA LJ l2 l1, Option.bind_some, l3]
                    by_cases c8 : nE = 240
                    · rw [bZ_t c8, if_neg one_ne, if_pos ((eq240 l1).mpr c8)]
                      exact ⟨-3, I, R, WI, WA, GI, GA, LI, LA, LJ, Mi, Ma, Mj, rfl, rfl, nF, nO, _, nE, hb, hw, hg, hl, hk, hc⟩
                    · rw [bZ_f c8, if_pos zero_t, if_neg (fun z => c8 ((eq240 l1).mp z))]
                      have hE : nE < 240 := by omega
                      unfold f_X1_addGlass
                      rw [g2]
                      have hl2 : Rl LI LA LJ Mi (aS (aS (aS (aS Ma 8 nG (nI u)) 9 nG (nI f)) 10 nG (Mi 0 + a3)) 11 nG 1) Mj nE := hl
                      have ex : upd GI 4 (nI nG + 1) 4 - 1 = nI nG := by rw [pk_us, nI_1, nI_pred]
                      have er : (upd (upd Mi 25 (nI (nE + 1))) 12 (nI (nG + 1))) 12 - 1 = nI nG := by rw [pk_us, nI_pred]
                      have e12 : (upd Mi 25 (nI (nE + 1))) 12 + 1 = nI (nG + 1) := by rw [pk_un (by decide), g3, nI_1]
                      simp only [gd_t hlt (show (40 : Nat) < 2 ^ 31 by decide), nI_clamp (show nG < 2 ^ 31 by omega), Option.bind_some]
                      rw [ex, e_add (by omega) hE LA LJ l2, e_enter (by omega) hE _ Mj l3]
                      simp only [Option.bind_some]
                      rw [e12, er, nI_1]
                      refine ⟨nI nG, I, R, WI, WA, upd GI 4 (nI (nG + 1)), aS (aS (aS (aS GA 0 nG (nI u)) 1 nG (nI f)) 2 nG (Mi 0 + a3)) 3 nG 1, upd LI 2 (nI (nE + 1)), aW LA 0 (put5 (LA 0) nE 3 (nI u) (nI nG) (nI f) (Mi 0)), jS LJ 1 nE (lnkAt (put5 (LA 0) nE 3 (nI u) (nI nG) (nI f) (Mi 0)) (LJ 1) nE), upd (upd Mi 25 (nI (nE + 1))) 12 (nI (nG + 1)), aW (aS (aS (aS (aS Ma 8 nG (nI u)) 9 nG (nI f)) 10 nG (Mi 0 + a3)) 11 nG 1) 23 (put5 ((aS (aS (aS (aS Ma 8 nG (nI u)) 9 nG (nI f)) 10 nG (Mi 0 + a3)) 11 nG 1) 23) nE 3 (nI u) (nI nG) (nI f) (Mi 0)), jS Mj 24 nE (lnkAt (put5 ((aS (aS (aS (aS Ma 8 nG (nI u)) 9 nG (nI f)) 10 nG (Mi 0 + a3)) 11 nG 1) 23) nE 3 (nI u) (nI nG) (nI f) (Mi 0)) (Mj 24) nE),  rfl, rfl, nF, nO, nG + 1, nE + 1, hb, hw, ⟨by omega, rfl, rfl, ?_⟩, Rl_add hl2 hE _ _ _ _ _, hk, hc⟩
                      intro g hg
                      show upd (GA 0) nG (nI u) g = upd (Ma 8) nG (nI u) g ∧ upd (GA 1) nG (nI f) g = upd (Ma 9) nG (nI f) g ∧ upd (GA 2) nG (Mi 0 + a3) g = upd (Ma 10) nG (Mi 0 + a3) g ∧ upd (GA 3) nG 1 g = upd (Ma 11) nG 1 g ∧ ∃ f', f' < nF ∧ upd (GA 1) nG (nI f) g = nI f' ∧ ¬ WA 0 f' = -1
                      unfold upd
                      by_cases q : g = nG
                      · simp only [if_pos q]
                        exact ⟨trivial, trivial, trivial, trivial, f, hf, rfl, v3 rfl⟩
                      · simp only [if_neg q]
                        exact g4 g (by omega)
                · rw [if_neg c6, if_neg c6]
                  exact ⟨-15, I, R, WI, WA, GI, GA, LI, LA, LJ, Mi, Ma, Mj, rfl, rfl, nF, nO, nG, nE, hb, hw, hg, hl, hk, hc⟩
        · rw [if_neg c4, bZ_f (fun z => c4 z.2), if_pos zero_t]
          exact ⟨-2, I, R, WI, WA, GI, GA, LI, LA, LJ, Mi, Ma, Mj, rfl, rfl, nF, nO, nG, nE, hb, hw, hg, hl, hk, hc⟩
    · rw [notIn c2, if_pos zero_t, if_pos zero_t]
      exact ⟨-2, I, R, WI, WA, GI, GA, LI, LA, LJ, Mi, Ma, Mj, rfl, rfl, nF, nO, nG, nE, hb, hw, hg, hl, hk, hc⟩
  · rw [notIn c1, if_pos zero_t, if_pos zero_t]
    exact ⟨-2, I, R, WI, WA, GI, GA, LI, LA, LJ, Mi, Ma, Mj, rfl, rfl, nF, nO, nG, nE, hb, hw, hg, hl, hk, hc⟩

theorem m_takeOff {N : Nat} (hN : 250 ≤ N) {I : Nat → Int32} {R : Nat → Int32} {WI : Nat → Int32} {WA : Nat → Nat → Int32} {GI : Nat → Int32} {GA : Nat → Nat → Int32} {LI : Nat → Int32} {LA : Nat → Nat → Int32} {LJ : Nat → Nat → Int64} {nK : Nat} {nC : Nat} {KI : Nat → Nat → Int32} {KA : Nat → Nat → Nat → Int32} {CK : Nat → Nat} {CD : Nat → Nat → Int32} {Mi : Nat → Int32} {Ma : Nat → Nat → Int32} {Mj : Nat → Nat → Int64} (a1 : Int32) (a2 : Int32) (h : Rel I R WI WA GI GA LI LA LJ nK nC KI KA CK CD Mi Ma Mj) : ∃ (r : Int32) (I' : Nat → Int32) (R' : Nat → Int32) (WI' : Nat → Int32) (WA' : Nat → Nat → Int32) (GI' : Nat → Int32) (GA' : Nat → Nat → Int32) (LI' : Nat → Int32) (LA' : Nat → Nat → Int32) (LJ' : Nat → Nat → Int64) (Mi' : Nat → Int32) (Ma' : Nat → Nat → Int32) (Mj' : Nat → Nat → Int64), 
    f_X5_takeOff N I R WI WA GI GA LI LA LJ a1 a2 = some (r, I', R', WI', WA', GI', GA', LI', LA', LJ') ∧ f_X6_takeOff N Mi Ma Mj a1 a2 = some (r, Mi', Ma', Mj') ∧ Rel I' R' WI' WA' GI' GA' LI' LA' LJ' nK nC KI KA CK CD Mi' Ma' Mj' := by
  obtain ⟨nF, nO, nG, nE, hb, hw, hg, hl, hk, hc⟩ := h
  have hl' := hl
  obtain ⟨l1, l2, l3, l4, l5⟩ := hl'
  have hg' := hg
  obtain ⟨g1, g2, g3, g4⟩ := hg'
  unfold f_X5_takeOff f_X6_takeOff
  rw [e_has1 GA g2, g3, e_in0 _ (by omega), Option.bind_some, Option.bind_some]
  by_cases c1 : 0 ≤ a1 ∧ a1 < nI nG
  · obtain ⟨g, hgl, rfl⟩ := ofIn (by omega) c1
    rw [isIn hgl (by omega), if_neg one_ne, if_neg one_ne, e_isUser5, e_isUser6, Option.bind_some, Option.bind_some]
    by_cases c2 : 0 ≤ a2 ∧ a2 < nI 12
    · obtain ⟨v, hv, rfl⟩ := ofIn (by decide) c2
      obtain ⟨x0, x1, x2, x3, f, f1, f2, f3⟩ := g4 g hgl
      have h40 : g < 40 := by omega
      rw [isIn hv (by decide), if_neg one_ne, if_neg one_ne]
      simp only [gd_t h40 (show (40 : Nat) < 2 ^ 31 by decide), gd_t hv (show (12 : Nat) < 2 ^ 31 by decide), nI_clamp (show g < 2 ^ 31 by omega), nI_clamp (show v < 2 ^ 31 by omega)]
      rw [← x3, ← x0, ← hb.2 v hv]
      by_cases c3 : GA 3 g = 0
      · rw [if_pos c3, if_pos c3]
        exact ⟨-2, I, R, WI, WA, GI, GA, LI, LA, LJ, Mi, Ma, Mj, rfl, rfl, nF, nO, nG, nE, hb, hw, hg, hl, hk, hc⟩
      · rw [if_neg c3, if_neg c3, show f_X5_hasBit (R v) 7 = some (bZ (bI (R v) 7 = true)) from e_hasBit _ (k := 7) (by decide), Option.bind_some]
        have h7 : ((R v) >>> ((7 : Int32) &&& 31)) &&& 1 = 0 ↔ bI (R v) 7 = false := hb_s (k := 7) (by decide) (R v)
        by_cases c4 : bI (R v) 7 = true
        · rw [bZ_t c4, if_neg one_ne, if_neg (show ¬ ((R v) >>> ((7 : Int32) &&& 31)) &&& 1 = 0 from fun z => by rw [h7.mp z] at c4; cases c4)]
          by_cases c5 : GA 0 g = nI v
          · rw [if_pos c5, if_pos c5]
            exact ⟨-19, I, R, WI, WA, GI, GA, LI, LA, LJ, Mi, Ma, Mj, rfl, rfl, nF, nO, nG, nE, hb, hw, hg, hl, hk, hc⟩
          · rw [if_neg c5, if_neg c5, e_full3 LA LJ l2 l1, Option.bind_some, l3]
            by_cases c8 : nE = 240
            · rw [bZ_t c8, if_neg one_ne, if_pos ((eq240 l1).mpr c8)]
              exact ⟨-3, I, R, WI, WA, GI, GA, LI, LA, LJ, Mi, Ma, Mj, rfl, rfl, nF, nO, nG, nE, hb, hw, hg, hl, hk, hc⟩
            · rw [bZ_f c8, if_pos zero_t, if_neg (fun z => c8 ((eq240 l1).mp z))]
              have hE : nE < 240 := by omega
              have hl2 : Rl LI LA LJ Mi (aS Ma 11 g 0) Mj nE := hl
              have hd : f_X1_due GI (aS GA 3 g 0) (nI g) = some (GA 2 g + 100) := by
                unfold f_X1_due
                rw [gd_t h40 (by decide), nI_clamp (by omega)]
                rfl
              rw [hb.1, e_add (by omega) hE LA LJ l2, e_enter (by omega) hE _ Mj l3, hd]
              simp only [Option.bind_some]
              have e10 : iMax 0 (((aW (aS Ma 11 g 0) 23 (put5 ((aS Ma 11 g 0) 23) nE 4 (nI v) (nI g) 0 (Mi 0))) 10 g + 100) - (upd Mi 25 (nI (nE + 1))) 0) = iMax 0 (GA 2 g + 100 - Mi 0) := by
                rw [x2]
                rfl
              rw [e10]
              refine ⟨iMax 0 (GA 2 g + 100 - Mi 0), I, R, WI, WA, GI, aS GA 3 g 0, upd LI 2 (nI (nE + 1)), aW LA 0 (put5 (LA 0) nE 4 (nI v) (nI g) 0 (Mi 0)), jS LJ 1 nE (lnkAt (put5 (LA 0) nE 4 (nI v) (nI g) 0 (Mi 0)) (LJ 1) nE), upd Mi 25 (nI (nE + 1)), aW (aS Ma 11 g 0) 23 (put5 ((aS Ma 11 g 0) 23) nE 4 (nI v) (nI g) 0 (Mi 0)), jS Mj 24 nE (lnkAt (put5 ((aS Ma 11 g 0) 23) nE 4 (nI v) (nI g) 0 (Mi 0)) (Mj 24) nE),  rfl, rfl, nF, nO, nG, nE + 1, hb, hw, ⟨g1, g2, g3, ?_⟩, Rl_add hl2 hE _ _ _ _ _, hk, hc⟩
              intro j hj
              show GA 0 j = Ma 8 j ∧ GA 1 j = Ma 9 j ∧ GA 2 j = Ma 10 j ∧ upd (GA 3) g 0 j = upd (Ma 11) g 0 j ∧ ∃ f, f < nF ∧ GA 1 j = nI f ∧ ¬ WA 0 f = -1
              obtain ⟨y0, y1, y2, y3, y4⟩ := g4 j hj
              refine ⟨y0, y1, y2, ?_, y4⟩
              unfold upd
              by_cases q : j = g
              · rw [if_pos q, if_pos q]
              · rw [if_neg q, if_neg q, y3]
        · rw [bZ_f c4, if_pos zero_t, if_pos (h7.mpr (by simpa using c4))]
          exact ⟨-18, I, R, WI, WA, GI, GA, LI, LA, LJ, Mi, Ma, Mj, rfl, rfl, nF, nO, nG, nE, hb, hw, hg, hl, hk, hc⟩
    · rw [notIn c2, if_pos zero_t, if_pos zero_t]
      exact ⟨-2, I, R, WI, WA, GI, GA, LI, LA, LJ, Mi, Ma, Mj, rfl, rfl, nF, nO, nG, nE, hb, hw, hg, hl, hk, hc⟩
  · rw [notIn c1, if_pos zero_t, if_pos zero_t]
    exact ⟨-2, I, R, WI, WA, GI, GA, LI, LA, LJ, Mi, Ma, Mj, rfl, rfl, nF, nO, nG, nE, hb, hw, hg, hl, hk, hc⟩

theorem m_told {N : Nat} (hN : 250 ≤ N) {I : Nat → Int32} {R : Nat → Int32} {WI : Nat → Int32} {WA : Nat → Nat → Int32} {GI : Nat → Int32} {GA : Nat → Nat → Int32} {LI : Nat → Int32} {LA : Nat → Nat → Int32} {LJ : Nat → Nat → Int64} {nK : Nat} {nC : Nat} {KI : Nat → Nat → Int32} {KA : Nat → Nat → Nat → Int32} {CK : Nat → Nat} {CD : Nat → Nat → Int32} {Mi : Nat → Int32} {Ma : Nat → Nat → Int32} {Mj : Nat → Nat → Int64} (a1 : Int32) (a2 : Int32) (h : Rel I R WI WA GI GA LI LA LJ nK nC KI KA CK CD Mi Ma Mj) : ∃ r : Int32, f_X5_told N I R WI WA GI GA LI LA LJ a1 a2 = some r ∧ f_X6_told N Mi Ma Mj a1 a2 = some r := by
  obtain ⟨nF, nO, nG, nE, hb, hw, hg, hl, hk, hc⟩ := h
  obtain ⟨w1, w2, w3, w4, w5, w6, w7, w8, w9, w10⟩ := hw
  unfold f_X5_told f_X6_told
  rw [e_isUser5, e_isUser6, Option.bind_some, Option.bind_some]
  by_cases c1 : 0 ≤ a1 ∧ a1 < nI 12
  · obtain ⟨u, hu, rfl⟩ := ofIn (by decide) c1
    obtain ⟨y1, y2, y3, y4⟩ := w10 u hu
    rw [isIn hu (by decide), if_neg one_ne, if_neg one_ne, e_isIn, Option.bind_some]
    simp only [gd_t hu (show (12 : Nat) < 2 ^ 31 by decide), nI_clamp (show u < 2 ^ 31 by omega)]
    rw [← hb.2 u hu, ← y1, ← y2]
    by_cases k0 : a2 = 0
    · subst k0
      exact ⟨R u, rfl, rfl⟩
    · rw [if_neg k0, if_neg k0]
      by_cases k1 : a2 = 1
      · subst k1
        exact ⟨WA 3 u, rfl, rfl⟩
      · rw [if_neg k1, if_neg k1]
        by_cases k2 : a2 = 2
        · subst k2
          exact ⟨WA 4 u, rfl, rfl⟩
        · rw [if_neg k2, if_neg k2]
          obtain ⟨r, r1, r2⟩ := e_duties Mj hN hg (nI u)
          rw [r1, r2]
          by_cases k3 : a2 = 3
          · subst k3
            exact ⟨r, rfl, rfl⟩
          · rw [if_neg k3, out3 k0 k1 k2 k3]
            exact ⟨-2, rfl, rfl⟩
  · rw [notIn c1, if_pos zero_t, if_pos zero_t]
    exact ⟨-2, rfl, rfl⟩

theorem m_glassTold {I : Nat → Int32} {R : Nat → Int32} {WI : Nat → Int32} {WA : Nat → Nat → Int32} {GI : Nat → Int32} {GA : Nat → Nat → Int32} {LI : Nat → Int32} {LA : Nat → Nat → Int32} {LJ : Nat → Nat → Int64} {nK : Nat} {nC : Nat} {KI : Nat → Nat → Int32} {KA : Nat → Nat → Nat → Int32} {CK : Nat → Nat} {CD : Nat → Nat → Int32} {Mi : Nat → Int32} {Ma : Nat → Nat → Int32} {Mj : Nat → Nat → Int64} (a1 : Int32) (a2 : Int32) (h : Rel I R WI WA GI GA LI LA LJ nK nC KI KA CK CD Mi Ma Mj) : ∃ r : Int32, f_X5_glassTold I R WI WA GI GA LI LA LJ a1 a2 = some r ∧ f_X6_glassTold Mi Ma Mj a1 a2 = some r := by
  obtain ⟨nF, nO, nG, nE, hb, hw, hg, hl, hk, hc⟩ := h
  obtain ⟨g1, g2, g3, g4⟩ := hg
  unfold f_X5_glassTold f_X6_glassTold
  rw [e_has1 GA g2, g3, e_in0 _ (by omega), Option.bind_some, Option.bind_some]
  by_cases c1 : 0 ≤ a1 ∧ a1 < nI nG
  · obtain ⟨g, hgl, rfl⟩ := ofIn (by omega) c1
    obtain ⟨x0, x1, x2, x3, -⟩ := g4 g hgl
    have h40 : g < 40 := by omega
    unfold f_X1_runs
    rw [isIn hgl (by omega), if_neg one_ne, if_neg one_ne, e_isIn, Option.bind_some]
    simp only [gd_t h40 (show (40 : Nat) < 2 ^ 31 by decide), nI_clamp (show g < 2 ^ 31 by omega)]
    rw [← x0, ← x1, ← x2, ← x3, hb.1]
    by_cases k0 : a2 = 0
    · subst k0
      exact ⟨GA 0 g, rfl, rfl⟩
    · rw [if_neg k0, if_neg k0]
      by_cases k1 : a2 = 1
      · subst k1
        exact ⟨GA 1 g, rfl, rfl⟩
      · rw [if_neg k1, if_neg k1]
        by_cases k2 : a2 = 2
        · subst k2
          exact ⟨GA 2 g, rfl, rfl⟩
        · rw [if_neg k2, if_neg k2]
          by_cases k3 : a2 = 3
          · subst k3
            rw [if_pos rfl, if_pos rfl]
            by_cases q : GA 2 g ≤ Mi 0
            · rw [if_pos q]
              exact ⟨0, rfl, rfl⟩
            · rw [if_neg q]
              exact ⟨1, rfl, rfl⟩
          · rw [if_neg k3, if_neg k3]
            unfold f_X5_asNumber
            by_cases k4 : a2 = 4
            · subst k4
              rw [if_pos rfl]
              by_cases q : GA 3 g = 0
              · rw [if_pos q]
                exact ⟨0, rfl, rfl⟩
              · rw [if_neg q]
                exact ⟨1, rfl, rfl⟩
            · rw [if_neg k4, out4 k0 k1 k2 k3 k4]
              exact ⟨-2, rfl, rfl⟩
  · rw [notIn c1, if_pos zero_t, if_pos zero_t]
    exact ⟨-2, rfl, rfl⟩

theorem m_entry {I : Nat → Int32} {R : Nat → Int32} {WI : Nat → Int32} {WA : Nat → Nat → Int32} {GI : Nat → Int32} {GA : Nat → Nat → Int32} {LI : Nat → Int32} {LA : Nat → Nat → Int32} {LJ : Nat → Nat → Int64} {nK : Nat} {nC : Nat} {KI : Nat → Nat → Int32} {KA : Nat → Nat → Nat → Int32} {CK : Nat → Nat} {CD : Nat → Nat → Int32} {Mi : Nat → Int32} {Ma : Nat → Nat → Int32} {Mj : Nat → Nat → Int64} (a1 : Int32) (a2 : Int32) (h : Rel I R WI WA GI GA LI LA LJ nK nC KI KA CK CD Mi Ma Mj) : ∃ r : Int32, f_X5_entry I R WI WA GI GA LI LA LJ a1 a2 = some r ∧ f_X6_entry Mi Ma Mj a1 a2 = some r := by
  obtain ⟨nF, nO, nG, nE, hb, hw, hg, hl, hk, hc⟩ := h
  obtain ⟨l1, l2, l3, l4, l5⟩ := hl
  unfold f_X5_entry f_X6_entry
  rw [e_hasC LA LJ l2, l3, e_in0 _ (by omega), Option.bind_some, Option.bind_some, show f_X6_isIn a2 0 4 = some (bZ (0 ≤ a2 ∧ a2 < nI 5)) from e_in0 a2 (n := 5) (by decide), Option.bind_some]
  by_cases c1 : 0 ≤ a1 ∧ a1 < nI nE
  · obtain ⟨i, hi, rfl⟩ := ofIn (by omega) c1
    rw [isIn hi (by omega), if_neg one_ne]
    by_cases c2 : 0 ≤ a2 ∧ a2 < nI 5
    · obtain ⟨v, hv, rfl⟩ := ofIn (by decide) c2
      have hiv : i * 5 + v < 1200 := by omega
      rw [bZ_t ⟨c1, c2⟩, if_neg one_ne, isIn hv (by decide), if_neg one_ne, x5, x5', xa]
      simp only [gd_t hiv (show (1200 : Nat) < 2 ^ 31 by decide), nI_clamp (show i * 5 + v < 2 ^ 31 by omega)]
      rw [← l4 (i * 5 + v) (by omega)]
      exact ⟨LA 0 (i * 5 + v), rfl, rfl⟩
    · rw [bZ_f (fun z => c2 z.2), if_pos zero_t, notIn c2, if_pos zero_t]
      exact ⟨-2, rfl, rfl⟩
  · rw [bZ_f (fun z => c1 z.1), if_pos zero_t, notIn c1, if_pos zero_t]
    exact ⟨-2, rfl, rfl⟩

theorem m_link {I : Nat → Int32} {R : Nat → Int32} {WI : Nat → Int32} {WA : Nat → Nat → Int32} {GI : Nat → Int32} {GA : Nat → Nat → Int32} {LI : Nat → Int32} {LA : Nat → Nat → Int32} {LJ : Nat → Nat → Int64} {nK : Nat} {nC : Nat} {KI : Nat → Nat → Int32} {KA : Nat → Nat → Nat → Int32} {CK : Nat → Nat} {CD : Nat → Nat → Int32} {Mi : Nat → Int32} {Ma : Nat → Nat → Int32} {Mj : Nat → Nat → Int64} (a1 : Int32) (h : Rel I R WI WA GI GA LI LA LJ nK nC KI KA CK CD Mi Ma Mj) : ∃ r : Int64, f_X5_link I R WI WA GI GA LI LA LJ a1 = some r ∧ f_X6_link Mi Ma Mj a1 = some r := by
  obtain ⟨nF, nO, nG, nE, hb, hw, hg, hl, hk, hc⟩ := h
  obtain ⟨l1, l2, l3, l4, l5⟩ := hl
  unfold f_X5_link f_X6_link
  rw [e_hasE LA LJ l2, l3, e_in0 _ (by omega), Option.bind_some, Option.bind_some]
  by_cases c1 : 0 ≤ a1 ∧ a1 < nI nE
  · obtain ⟨i, hi, rfl⟩ := ofIn (by omega) c1
    rw [isIn hi (by omega), if_neg one_ne, if_neg one_ne, gd_t (by omega) (by decide), gd_t (by omega) (by decide), nI_clamp (by omega), ← l5 i hi]
    exact ⟨LJ 1 i, rfl, rfl⟩
  · rw [notIn c1, if_pos zero_t, if_pos zero_t]
    exact ⟨0, rfl, rfl⟩

theorem m_alter {I : Nat → Int32} {R : Nat → Int32} {WI : Nat → Int32} {WA : Nat → Nat → Int32} {GI : Nat → Int32} {GA : Nat → Nat → Int32} {LI : Nat → Int32} {LA : Nat → Nat → Int32} {LJ : Nat → Nat → Int64} {nK : Nat} {nC : Nat} {KI : Nat → Nat → Int32} {KA : Nat → Nat → Nat → Int32} {CK : Nat → Nat} {CD : Nat → Nat → Int32} {Mi : Nat → Int32} {Ma : Nat → Nat → Int32} {Mj : Nat → Nat → Int64} (a1 : Int32) (a2 : Int32) (a3 : Int32) (h : Rel I R WI WA GI GA LI LA LJ nK nC KI KA CK CD Mi Ma Mj) : ∃ (r : Int32) (I' : Nat → Int32) (R' : Nat → Int32) (WI' : Nat → Int32) (WA' : Nat → Nat → Int32) (GI' : Nat → Int32) (GA' : Nat → Nat → Int32) (LI' : Nat → Int32) (LA' : Nat → Nat → Int32) (LJ' : Nat → Nat → Int64) (Mi' : Nat → Int32) (Ma' : Nat → Nat → Int32) (Mj' : Nat → Nat → Int64), 
    f_X5_alter I R WI WA GI GA LI LA LJ a1 a2 a3 = some (r, I', R', WI', WA', GI', GA', LI', LA', LJ') ∧ f_X6_alter Mi Ma Mj a1 a2 a3 = some (r, Mi', Ma', Mj') ∧ Rel I' R' WI' WA' GI' GA' LI' LA' LJ' nK nC KI KA CK CD Mi' Ma' Mj' := by
  obtain ⟨nF, nO, nG, nE, hb, hw, hg, hl, hk, hc⟩ := h
  obtain ⟨l1, l2, l3, l4, l5⟩ := hl
  unfold f_X5_alter f_X6_alter
  rw [e_hasC LA LJ l2, l3, e_in0 _ (by omega), Option.bind_some, Option.bind_some, show f_X6_isIn a2 0 4 = some (bZ (0 ≤ a2 ∧ a2 < nI 5)) from e_in0 a2 (n := 5) (by decide), Option.bind_some]
  by_cases c1 : 0 ≤ a1 ∧ a1 < nI nE
  · obtain ⟨i, hi, rfl⟩ := ofIn (by omega) c1
    rw [isIn hi (by omega), if_neg one_ne]
    by_cases c2 : 0 ≤ a2 ∧ a2 < nI 5
    · obtain ⟨v, hv, rfl⟩ := ofIn (by decide) c2
      have hiv : i * 5 + v < 1200 := by omega
      rw [bZ_t ⟨c1, c2⟩, if_neg one_ne, isIn hv (by decide), if_neg one_ne, x5, x5', xa]
      simp only [gd_t hiv (show (1200 : Nat) < 2 ^ 31 by decide), nI_clamp (show i * 5 + v < 2 ^ 31 by omega)]
      rw [← l4 (i * 5 + v) (by omega)]
      refine ⟨LA 0 (i * 5 + v), I, R, WI, WA, GI, GA, LI, aS LA 0 (i * 5 + v) a3, LJ, Mi, aS Ma 23 (i * 5 + v) a3, Mj, rfl, rfl, nF, nO, nG, nE, hb, hw, hg, ⟨l1, l2, l3, fun j hj => ?_, l5⟩, hk, hc⟩
      show upd (LA 0) (i * 5 + v) a3 j = upd (Ma 23) (i * 5 + v) a3 j
      unfold upd
      by_cases q : j = i * 5 + v
      · rw [if_pos q, if_pos q]
      · rw [if_neg q, if_neg q, l4 j hj]
    · rw [bZ_f (fun z => c2 z.2), if_pos zero_t, notIn c2, if_pos zero_t]
      exact ⟨-2, I, R, WI, WA, GI, GA, LI, LA, LJ, Mi, Ma, Mj, rfl, rfl, nF, nO, nG, nE, hb, hw, hg, ⟨l1, l2, l3, l4, l5⟩, hk, hc⟩
  · rw [bZ_f (fun z => c1 z.1), if_pos zero_t, notIn c1, if_pos zero_t]
    exact ⟨-2, I, R, WI, WA, GI, GA, LI, LA, LJ, Mi, Ma, Mj, rfl, rfl, nF, nO, nG, nE, hb, hw, hg, ⟨l1, l2, l3, l4, l5⟩, hk, hc⟩

theorem m_check {N : Nat} (hN : 250 ≤ N) {I : Nat → Int32} {R : Nat → Int32} {WI : Nat → Int32} {WA : Nat → Nat → Int32} {GI : Nat → Int32} {GA : Nat → Nat → Int32} {LI : Nat → Int32} {LA : Nat → Nat → Int32} {LJ : Nat → Nat → Int64} {nK : Nat} {nC : Nat} {KI : Nat → Nat → Int32} {KA : Nat → Nat → Nat → Int32} {CK : Nat → Nat} {CD : Nat → Nat → Int32} {Mi : Nat → Int32} {Ma : Nat → Nat → Int32} {Mj : Nat → Nat → Int64}  (h : Rel I R WI WA GI GA LI LA LJ nK nC KI KA CK CD Mi Ma Mj) : ∃ r : Int32, f_X5_check N I R WI WA GI GA LI LA LJ  = some r ∧ f_X6_check N Mi Ma Mj  = some r := by
  obtain ⟨nF, nO, nG, nE, hb, hw, hg, hl, hk, hc⟩ := h
  obtain ⟨r, r1, r2⟩ := e_check hN hl
  unfold f_X5_check
  rw [r1, r2]
  exact ⟨r, rfl, rfl⟩

theorem m_count {I : Nat → Int32} {R : Nat → Int32} {WI : Nat → Int32} {WA : Nat → Nat → Int32} {GI : Nat → Int32} {GA : Nat → Nat → Int32} {LI : Nat → Int32} {LA : Nat → Nat → Int32} {LJ : Nat → Nat → Int64} {nK : Nat} {nC : Nat} {KI : Nat → Nat → Int32} {KA : Nat → Nat → Nat → Int32} {CK : Nat → Nat} {CD : Nat → Nat → Int32} {Mi : Nat → Int32} {Ma : Nat → Nat → Int32} {Mj : Nat → Nat → Int64} (a1 : Int32) (h : Rel I R WI WA GI GA LI LA LJ nK nC KI KA CK CD Mi Ma Mj) : ∃ r : Int32, f_X5_count I R WI WA GI GA LI LA LJ a1 = some r ∧ f_X6_count Mi Ma Mj a1 = some r := by
  obtain ⟨nF, nO, nG, nE, hb, hw, hg, hl, hk, hc⟩ := h
  unfold f_X5_count f_X6_count
  have q0 : I 8 = Mi 0 := hb.1
  have q1 : WI 5 = Mi 5 := by rw [hw.2.2.1, hw.2.2.2.1]
  have q2 : WI 6 = Mi 7 := by rw [hw.2.2.2.2.1, hw.2.2.2.2.2.1]
  have q3 : GI 4 = Mi 12 := by rw [hg.2.1, hg.2.2.1]
  have q4 : I 6 = Mi 19 := by rw [hk.2.1, hk.2.2.1]
  have q5 : I 7 = Mi 22 := by rw [hc.2.1, hc.2.2.1]
  have q6 : LI 2 = Mi 25 := by rw [hl.2.1, hl.2.2.1]
  rw [q0, q1, q2, q3, q4, q5, q6]
  by_cases k0 : a1 = 0
  · rw [if_pos k0]
    exact ⟨Mi 0, rfl, rfl⟩
  · rw [if_neg k0]
    by_cases k1 : a1 = 1
    · rw [if_pos k1]
      exact ⟨Mi 5, rfl, rfl⟩
    · rw [if_neg k1]
      by_cases k2 : a1 = 2
      · rw [if_pos k2]
        exact ⟨Mi 7, rfl, rfl⟩
      · rw [if_neg k2]
        by_cases k3 : a1 = 3
        · rw [if_pos k3]
          exact ⟨Mi 12, rfl, rfl⟩
        · rw [if_neg k3]
          by_cases k4 : a1 = 4
          · rw [if_pos k4]
            exact ⟨Mi 19, rfl, rfl⟩
          · rw [if_neg k4]
            by_cases k5 : a1 = 5
            · rw [if_pos k5]
              exact ⟨Mi 22, rfl, rfl⟩
            · rw [if_neg k5]
              by_cases k6 : a1 = 6
              · rw [if_pos k6]
                exact ⟨Mi 25, rfl, rfl⟩
              · rw [if_neg k6]
                exact ⟨-2, rfl, rfl⟩

