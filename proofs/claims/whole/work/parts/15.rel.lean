/-! the relation between the desk and the reference; the methods that leave the kinds and cases alone -/
def PM (M P : Nat → Int32) (t : Nat) : Prop := (∀ a b, a < b → b < 6 → bI (M a) b = !decide (P (6 * a + b) = 0) ∧ bI (M b) a = bI (M a) b) ∧ ∀ a i, a < 6 → bI (M a) i = true → i < t ∧ a < t ∧ ¬ i = a
def KX (k : Nat) (ki : Nat → Int32) (ka Ma : Nat → Nat → Int32) : Prop := ∃ t, t ≤ 6 ∧ ki 4 = nI t ∧ Ma 13 k = nI t ∧ (∃ m, 1 ≤ m ∧ m ≤ 6 ∧ ki 5 = nI m ∧ Ma 18 k = nI m) ∧
  (∀ j, j < t → ka 0 j = Ma 14 (6 * k + j) ∧ (∃ r, r < 8 ∧ ka 0 j = nI r) ∧ ka 1 j = Ma 15 (6 * k + j) ∧ ∀ i, bI (ka 1 j) i = true → i < j) ∧ PM (ka 2) (fun q => Ma 16 (36 * k + q)) t ∧ PM (ka 3) (fun q => Ma 17 (36 * k + q)) t
def Rk (I : Nat → Int32) (nK : Nat) (KI : Nat → Nat → Int32) (KA : Nat → Nat → Nat → Int32) (Mi : Nat → Int32) (Ma : Nat → Nat → Int32) : Prop := nK ≤ 4 ∧ I 6 = nI nK ∧ Mi 19 = nI nK ∧ (∀ k, k < nK → KX k (KI k) (KA k) Ma) ∧ (∀ k, nK ≤ k → k < 4 → Ma 13 k = 0) ∧ (∀ q, 36 * nK ≤ q → q < 144 → Ma 16 q = 0 ∧ Ma 17 q = 0)
def Rc (I : Nat → Int32) (nK nC : Nat) (KI : Nat → Nat → Int32) (CK : Nat → Nat) (CD : Nat → Nat → Int32) (Mi : Nat → Int32) (Ma : Nat → Nat → Int32) : Prop := nC ≤ 16 ∧ I 7 = nI nC ∧ Mi 22 = nI nC ∧ (∀ c, c < nC → CK c < nK ∧ Ma 20 c = nI (CK c) ∧ ∀ t, t < 6 → CD c t = Ma 21 (6 * c + t) ∧ (CD c t = -1 ∨ ∃ u, u < 12 ∧ CD c t = nI u)) ∧ (∀ k, k < nK → (KI k 6 = 0 ↔ ∀ c, c < nC → ¬ CK c = k))
def Rel (I : Nat → Int32) (R : Nat → Int32) (WI : Nat → Int32) (WA : Nat → Nat → Int32) (GI : Nat → Int32) (GA : Nat → Nat → Int32) (LI : Nat → Int32) (LA : Nat → Nat → Int32) (LJ : Nat → Nat → Int64) (nK : Nat) (nC : Nat) (KI : Nat → Nat → Int32) (KA : Nat → Nat → Nat → Int32) (CK : Nat → Nat) (CD : Nat → Nat → Int32) (Mi : Nat → Int32) (Ma : Nat → Nat → Int32) (Mj : Nat → Nat → Int64) : Prop := ∃ nF nO nG nE, Rb I R Mi Ma ∧ Rw WI WA Mi Ma nF nO ∧ Rg GI GA WA Mi Ma nF nG ∧ Rl LI LA LJ Mi Ma Mj nE ∧ Rk I nK KI KA Mi Ma ∧ Rc I nK nC KI CK CD Mi Ma
theorem notIn {a : Int32} {n : Nat} (h : ¬ (0 ≤ a ∧ a < nI n)) : bZ (0 ≤ a ∧ a < nI n) = 0 := bZ_f h
theorem isIn {j n : Nat} (h : j < n) (hn : n < 2 ^ 31) : bZ (0 ≤ nI j ∧ nI j < nI n) = 1 := bZ_t ⟨nI_pos' (by omega), nI_lt h hn⟩
theorem ofIn {a : Int32} {n : Nat} (hn : n < 2 ^ 31) (h : 0 ≤ a ∧ a < nI n) : ∃ j, j < n ∧ a = nI j := inR_of hn h
theorem in1000 (a : Int32) : (f_X6_isIn a 1 1000) = some (bZ (¬ a < 1 ∧ a ≤ 1000)) := by
  rw [e_isIn]; exact congrArg some (bZ_c (and_congr_left fun _ => Int32.not_lt.symm))
theorem one_ne : ¬ (1 : Int32) = 0 := by decide
theorem zero_t : (0 : Int32) = 0 := rfl

theorem m_tick {I : Nat → Int32} {R : Nat → Int32} {WI : Nat → Int32} {WA : Nat → Nat → Int32} {GI : Nat → Int32} {GA : Nat → Nat → Int32} {LI : Nat → Int32} {LA : Nat → Nat → Int32} {LJ : Nat → Nat → Int64} {nK : Nat} {nC : Nat} {KI : Nat → Nat → Int32} {KA : Nat → Nat → Nat → Int32} {CK : Nat → Nat} {CD : Nat → Nat → Int32} {Mi : Nat → Int32} {Ma : Nat → Nat → Int32} {Mj : Nat → Nat → Int64} (a1 : Int32) (h : Rel I R WI WA GI GA LI LA LJ nK nC KI KA CK CD Mi Ma Mj) : ∃ (r : Int32) (I' : Nat → Int32) (R' : Nat → Int32) (WI' : Nat → Int32) (WA' : Nat → Nat → Int32) (GI' : Nat → Int32) (GA' : Nat → Nat → Int32) (LI' : Nat → Int32) (LA' : Nat → Nat → Int32) (LJ' : Nat → Nat → Int64) (Mi' : Nat → Int32) (Ma' : Nat → Nat → Int32) (Mj' : Nat → Nat → Int64), 
    f_X5_tick I R WI WA GI GA LI LA LJ a1 = some (r, I', R', WI', WA', GI', GA', LI', LA', LJ') ∧ f_X6_tick Mi Ma Mj a1 = some (r, Mi', Ma', Mj') ∧ Rel I' R' WI' WA' GI' GA' LI' LA' LJ' nK nC KI KA CK CD Mi' Ma' Mj' := by
  obtain ⟨nF, nO, nG, nE, hb, hw, hg, hl, hk, hc⟩ := h
  unfold f_X5_tick f_X6_tick
  rw [in1000, Option.bind_some, hb.1]
  by_cases c1 : a1 < 1
  · rw [if_pos c1, bZ_f (fun z => z.1 c1), if_pos zero_t]
    exact ⟨-2, I, R, WI, WA, GI, GA, LI, LA, LJ, Mi, Ma, Mj,  rfl, rfl, nF, nO, nG, nE, hb, hw, hg, hl, hk, hc⟩
  · rw [if_neg c1]
    by_cases c2 : a1 ≤ 1000
    · rw [if_pos c2, bZ_t ⟨c1, c2⟩, if_neg one_ne]
      by_cases c3 : Mi 0 + a1 ≤ 100000
      · rw [if_pos c3, if_pos c3]
        exact ⟨Mi 0 + a1, upd I 8 (Mi 0 + a1), R, WI, WA, GI, GA, LI, LA, LJ, upd Mi 0 (Mi 0 + a1), Ma, Mj,  rfl, rfl, nF, nO, nG, nE, ⟨rfl, hb.2⟩, hw, hg, hl, hk, hc⟩
      · rw [if_neg c3, if_neg c3]
        exact ⟨-3, I, R, WI, WA, GI, GA, LI, LA, LJ, Mi, Ma, Mj,  rfl, rfl, nF, nO, nG, nE, hb, hw, hg, hl, hk, hc⟩
    · rw [if_neg c2, bZ_f (fun z => c2 z.2), if_pos zero_t]
      exact ⟨-2, I, R, WI, WA, GI, GA, LI, LA, LJ, Mi, Ma, Mj,  rfl, rfl, nF, nO, nG, nE, hb, hw, hg, hl, hk, hc⟩

theorem m_roles {I : Nat → Int32} {R : Nat → Int32} {WI : Nat → Int32} {WA : Nat → Nat → Int32} {GI : Nat → Int32} {GA : Nat → Nat → Int32} {LI : Nat → Int32} {LA : Nat → Nat → Int32} {LJ : Nat → Nat → Int64} {nK : Nat} {nC : Nat} {KI : Nat → Nat → Int32} {KA : Nat → Nat → Nat → Int32} {CK : Nat → Nat} {CD : Nat → Nat → Int32} {Mi : Nat → Int32} {Ma : Nat → Nat → Int32} {Mj : Nat → Nat → Int64} (a1 : Int32) (a2 : Int32) (h : Rel I R WI WA GI GA LI LA LJ nK nC KI KA CK CD Mi Ma Mj) : ∃ (r : Int32) (I' : Nat → Int32) (R' : Nat → Int32) (WI' : Nat → Int32) (WA' : Nat → Nat → Int32) (GI' : Nat → Int32) (GA' : Nat → Nat → Int32) (LI' : Nat → Int32) (LA' : Nat → Nat → Int32) (LJ' : Nat → Nat → Int64) (Mi' : Nat → Int32) (Ma' : Nat → Nat → Int32) (Mj' : Nat → Nat → Int64), 
    f_X5_roles I R WI WA GI GA LI LA LJ a1 a2 = some (r, I', R', WI', WA', GI', GA', LI', LA', LJ') ∧ f_X6_roles Mi Ma Mj a1 a2 = some (r, Mi', Ma', Mj') ∧ Rel I' R' WI' WA' GI' GA' LI' LA' LJ' nK nC KI KA CK CD Mi' Ma' Mj' := by
  obtain ⟨nF, nO, nG, nE, hb, hw, hg, hl, hk, hc⟩ := h
  unfold f_X5_roles f_X6_roles
  rw [e_isUser5, e_isUser6, Option.bind_some, Option.bind_some, e_isIn, Option.bind_some]
  by_cases c1 : 0 ≤ a1 ∧ a1 < nI 12
  · obtain ⟨u, hu, rfl⟩ := ofIn (by decide) c1
    rw [isIn hu (by decide), if_neg one_ne, if_neg one_ne]
    have hm : f_X6_isIn a2 0 255 = some (bZ (0 ≤ a2 ∧ a2 ≤ 255)) := e_isIn _ _ _
    by_cases c2 : a2 < 0
    · rw [if_pos c2, bZ_f (fun z => absurd z.1 (Int32.not_le.mpr c2)), if_pos zero_t]
      exact ⟨-2, I, R, WI, WA, GI, GA, LI, LA, LJ, Mi, Ma, Mj,  rfl, rfl, nF, nO, nG, nE, hb, hw, hg, hl, hk, hc⟩
    · rw [if_neg c2]
      have e255 : a2 ≤ 255 ↔ a2 < 256 := leP a2 (n := 256) (by decide)
      by_cases c3 : a2 < 256
      · rw [if_pos c3, bZ_t ⟨Int32.not_lt.mp c2, e255.mpr c3⟩, if_neg one_ne, gd_t hu (by decide), gd_t hu (by decide), gd_t hu (by decide), gd_t hu (by decide), nI_clamp (by omega), ← hb.2 u hu]
        refine ⟨R u, I, upd R u a2, WI, WA, GI, GA, LI, LA, LJ, Mi, aS Ma 1 u a2, Mj,  rfl, rfl, nF, nO, nG, nE, ⟨hb.1, fun v hv => ?_⟩, hw, hg, hl, hk, hc⟩
        show upd R u a2 v = upd (Ma 1) u a2 v
        unfold upd
        by_cases q : v = u
        · rw [if_pos q, if_pos q]
        · rw [if_neg q, if_neg q, hb.2 v hv]
      · rw [if_neg c3, bZ_f (fun z => c3 (e255.mp z.2)), if_pos zero_t]
        exact ⟨-2, I, R, WI, WA, GI, GA, LI, LA, LJ, Mi, Ma, Mj,  rfl, rfl, nF, nO, nG, nE, hb, hw, hg, hl, hk, hc⟩
  · rw [notIn c1, if_pos zero_t, if_pos zero_t]
    exact ⟨-2, I, R, WI, WA, GI, GA, LI, LA, LJ, Mi, Ma, Mj,  rfl, rfl, nF, nO, nG, nE, hb, hw, hg, hl, hk, hc⟩

theorem m_firm {I : Nat → Int32} {R : Nat → Int32} {WI : Nat → Int32} {WA : Nat → Nat → Int32} {GI : Nat → Int32} {GA : Nat → Nat → Int32} {LI : Nat → Int32} {LA : Nat → Nat → Int32} {LJ : Nat → Nat → Int64} {nK : Nat} {nC : Nat} {KI : Nat → Nat → Int32} {KA : Nat → Nat → Nat → Int32} {CK : Nat → Nat} {CD : Nat → Nat → Int32} {Mi : Nat → Int32} {Ma : Nat → Nat → Int32} {Mj : Nat → Nat → Int64} (a1 : Int32) (h : Rel I R WI WA GI GA LI LA LJ nK nC KI KA CK CD Mi Ma Mj) : ∃ (r : Int32) (I' : Nat → Int32) (R' : Nat → Int32) (WI' : Nat → Int32) (WA' : Nat → Nat → Int32) (GI' : Nat → Int32) (GA' : Nat → Nat → Int32) (LI' : Nat → Int32) (LA' : Nat → Nat → Int32) (LJ' : Nat → Nat → Int64) (Mi' : Nat → Int32) (Ma' : Nat → Nat → Int32) (Mj' : Nat → Nat → Int64), 
    f_X5_firm I R WI WA GI GA LI LA LJ a1 = some (r, I', R', WI', WA', GI', GA', LI', LA', LJ') ∧ f_X6_firm Mi Ma Mj a1 = some (r, Mi', Ma', Mj') ∧ Rel I' R' WI' WA' GI' GA' LI' LA' LJ' nK nC KI KA CK CD Mi' Ma' Mj' := by
  obtain ⟨nF, nO, nG, nE, hb, hw, hg, hl, hk, hc⟩ := h
  obtain ⟨w1, w2, w3, w4, w5, w6, w7, w8, w9, w10⟩ := hw
  have hm : ∀ x : Int32, f_X6_isIn x (-1) 7 = some (bZ (x = -1 ∨ (0 ≤ x ∧ x < nI 8))) := by
    intro x
    rw [e_isIn]
    refine congrArg some (bZ_c ?_)
    rw [← Int32.toInt_inj]
    simp only [Int32.le_iff_toInt_le, Int32.lt_iff_toInt_lt]
    rw [show (-1 : Int32).toInt = -1 from by decide, show (7 : Int32).toInt = 7 from by decide, show (0 : Int32).toInt = 0 from by decide, show (nI 8).toInt = 8 from by decide]
    omega
  unfold f_X5_firm f_X6_firm
  rw [hm, Option.bind_some, e_isBelow, show (8 : Int32) = nI 8 from rfl, w4]
  have fin : ∀ (hv : a1 = -1 ∨ ∃ c, c < 8 ∧ a1 = nI c), ∃ (r : Int32) (WI' : Nat → Int32) (WA' : Nat → Nat → Int32) (Mi' : Nat → Int32) (Ma' : Nat → Nat → Int32), f_X4_addFirm WI WA a1 = some (r, WI', WA') ∧ (if nI nF = 24 then some ((-3 : Int32), Mi, Ma, Mj) else gd (nI nF) 24 (some (((upd Mi 5 (nI nF + 1)) 5) - 1, upd Mi 5 (nI nF + 1), aS Ma 4 (nI nF).toNatClampNeg a1, Mj))) = some (r, Mi', Ma', Mj) ∧ Rel I R WI' WA' GI GA LI LA LJ nK nC KI KA CK CD Mi' Ma' Mj := by
    intro hv
    unfold f_X4_addFirm
    rw [w3]
    by_cases q : nF = 24
    · subst q
      rw [if_neg (show ¬ nI 24 < 24 by decide), if_pos (show nI 24 = 24 from rfl)]
      exact ⟨_, _, _, _, _, rfl, rfl, _, nO, nG, nE, hb, ⟨w1, w2, w3, w4, w5, w6, w7, w8, w9, w10⟩, hg, hl, hk, hc⟩
    · have hlt : nF < 24 := by omega
      rw [if_pos (show nI nF < 24 from (nI_ltI (b := 24) (by omega) (by decide)).mpr hlt), if_neg (show ¬ nI nF = 24 from fun z => q ((nI_eq (b := 24) (by omega) (by decide)).mp z)), gd_t hlt (by decide), gd_t hlt (by decide), nI_clamp (by omega), xa1]
      have newc : ∀ f, f < nF + 1 → upd (WA 0) nF a1 f = upd (Ma 4) nF a1 f ∧ (upd (WA 0) nF a1 f = -1 ∨ ∃ c, c < 8 ∧ upd (WA 0) nF a1 f = nI c) := by
        intro f hf
        unfold upd
        by_cases z : f = nF
        · rw [if_pos z, if_pos z]; exact ⟨rfl, hv⟩
        · rw [if_neg z, if_neg z]; exact w7 f (by omega)
      have old : ∀ i, i < nF → upd (WA 0) nF a1 i = WA 0 i := fun i hi => pk_un (by omega)
      have glas : Rg GI GA (aS WA 0 nF a1) Mi Ma (nF + 1) nG := by
        obtain ⟨g1, g2, g3, g4⟩ := hg
        refine ⟨g1, g2, g3, fun g hg => ?_⟩
        obtain ⟨x0, x1, x2, x3, f, f1, f2, f3⟩ := g4 g hg
        exact ⟨x0, x1, x2, x3, f, by omega, f2, by show ¬ upd (WA 0) nF a1 f = -1; rw [old f f1]; exact f3⟩
      have known : ∀ u, u < 12 → WA 3 u = Ma 2 u ∧ WA 4 u = Ma 3 u ∧ (∀ i, bI (WA 3 u) i = true → i < nF + 1 ∧ ¬ upd (WA 0) nF a1 i = -1) ∧ (∀ i, bI (WA 4 u) i = true → i < nF + 1 ∧ ¬ upd (WA 0) nF a1 i = -1) := by
        intro u hu
        obtain ⟨y1, y2, y3, y4⟩ := w10 u hu
        refine ⟨y1, y2, fun i hi => ?_, fun i hi => ?_⟩
        · have := y3 i hi; exact ⟨by omega, by rw [old i this.1]; exact this.2⟩
        · have := y4 i hi; exact ⟨by omega, by rw [old i this.1]; exact this.2⟩
      have objs : ∀ o, o < nO → WA 2 o = Ma 6 o ∧ ∃ f, f < nF + 1 ∧ WA 2 o = nI f := fun o ho => ⟨(w9 o ho).1, by obtain ⟨f, hf, e⟩ := (w9 o ho).2; exact ⟨f, by omega, e⟩⟩
      rcases hv with hv | ⟨c, hc8, hv⟩
      · rw [if_pos hv]
        refine ⟨_, _, _, _, _, rfl, rfl, nF + 1, nO, nG, nE, hb, ⟨by omega, w2, rfl, rfl, w5, w6, newc, ?_, objs, known⟩, glas, hl, hk, hc⟩
        intro c hc8 i
        show bI (WA 1 c) i = decide (i < nF + 1 ∧ upd (WA 0) nF a1 i = nI c)
        rw [w8 c hc8 i]
        refine decide_eq_decide.mpr ⟨fun z => ⟨by omega, by rw [old i z.1]; exact z.2⟩, fun z => ?_⟩
        by_cases zi : i = nF
        · exfalso
          have z2 := z.2
          rw [zi, pk_us, hv] at z2
          exact nm1 (by omega) z2.symm
        · have z1 : i < nF := by omega
          exact ⟨z1, by rw [← old i z1]; exact z.2⟩
      · have hne : ¬ a1 = -1 := by rw [hv]; exact nm1 (by omega)
        rw [if_neg hne, hv, gd_t (j := c) (by omega) (by decide), gd_t (j := c) (by omega) (by decide), nI_clamp (by omega)]
        refine ⟨_, _, _, _, _, rfl, rfl, nF + 1, nO, nG, nE, hb, ⟨by omega, w2, rfl, rfl, w5, w6, by rw [← hv]; exact newc, ?_, objs, by rw [← hv]; exact known⟩, by rw [← hv]; exact glas, hl, hk, hc⟩
        intro c' hc8' i
        show bI (upd (WA 1) c (WA 1 c ||| ((1 : Int32) <<< (nI nF &&& 31))) c') i = decide (i < nF + 1 ∧ upd (WA 0) nF (nI c) i = nI c')
        by_cases zc : c' = c
        · subst zc
          rw [pk_us, bI_or, bI_shl1 (by omega), w8 c' hc8' i]
          by_cases zi : i = nF
          · subst zi; rw [pk_us]; simp
          · rw [pk_un zi, decide_eq_false zi, Bool.or_false]
            exact decide_eq_decide.mpr ⟨fun z => ⟨by omega, z.2⟩, fun z => ⟨by omega, z.2⟩⟩
        · rw [pk_un zc, w8 c' hc8' i]
          refine decide_eq_decide.mpr ⟨fun z => ⟨by omega, by rw [pk_un (by omega)]; exact z.2⟩, fun z => ?_⟩
          by_cases zi : i = nF
          · exfalso
            have z2 := z.2
            rw [zi, pk_us] at z2
            exact zc ((nI_eq (by omega) (by omega)).mp z2.symm)
          · have z2 := z.2
            rw [pk_un zi] at z2
            exact ⟨by omega, z2⟩
  by_cases c1 : a1 = -1
  · rw [if_pos c1, bZ_t (Or.inl c1), if_neg one_ne]
    obtain ⟨r, WI', WA', Mi', Ma', e1, e2, e3⟩ := fin (Or.inl c1)
    rw [e1, e2]
    exact ⟨r, I, R, WI', WA', GI, GA, LI, LA, LJ, Mi', Ma', Mj, rfl, rfl, e3⟩
  · rw [if_neg c1, Option.bind_some]
    by_cases c2 : 0 ≤ a1 ∧ a1 < nI 8
    · rw [bZ_t c2, if_neg one_ne, bZ_t (Or.inr c2), if_neg one_ne]
      obtain ⟨r, WI', WA', Mi', Ma', e1, e2, e3⟩ := fin (Or.inr (ofIn (by decide) c2))
      rw [e1, e2]
      exact ⟨r, I, R, WI', WA', GI, GA, LI, LA, LJ, Mi', Ma', Mj, rfl, rfl, e3⟩
    · rw [bZ_f c2, if_pos zero_t, bZ_f (fun z => z.elim c1 c2), if_pos zero_t]
      exact ⟨-2, I, R, WI, WA, GI, GA, LI, LA, LJ, Mi, Ma, Mj,  rfl, rfl, nF, nO, nG, nE, hb, ⟨w1, w2, w3, w4, w5, w6, w7, w8, w9, w10⟩, hg, hl, hk, hc⟩

theorem m_object {I : Nat → Int32} {R : Nat → Int32} {WI : Nat → Int32} {WA : Nat → Nat → Int32} {GI : Nat → Int32} {GA : Nat → Nat → Int32} {LI : Nat → Int32} {LA : Nat → Nat → Int32} {LJ : Nat → Nat → Int64} {nK : Nat} {nC : Nat} {KI : Nat → Nat → Int32} {KA : Nat → Nat → Nat → Int32} {CK : Nat → Nat} {CD : Nat → Nat → Int32} {Mi : Nat → Int32} {Ma : Nat → Nat → Int32} {Mj : Nat → Nat → Int64} (a1 : Int32) (h : Rel I R WI WA GI GA LI LA LJ nK nC KI KA CK CD Mi Ma Mj) : ∃ (r : Int32) (I' : Nat → Int32) (R' : Nat → Int32) (WI' : Nat → Int32) (WA' : Nat → Nat → Int32) (GI' : Nat → Int32) (GA' : Nat → Nat → Int32) (LI' : Nat → Int32) (LA' : Nat → Nat → Int32) (LJ' : Nat → Nat → Int64) (Mi' : Nat → Int32) (Ma' : Nat → Nat → Int32) (Mj' : Nat → Nat → Int64), 
    f_X5_object I R WI WA GI GA LI LA LJ a1 = some (r, I', R', WI', WA', GI', GA', LI', LA', LJ') ∧ f_X6_object Mi Ma Mj a1 = some (r, Mi', Ma', Mj') ∧ Rel I' R' WI' WA' GI' GA' LI' LA' LJ' nK nC KI KA CK CD Mi' Ma' Mj' := by
  obtain ⟨nF, nO, nG, nE, hb, hw, hg, hl, hk, hc⟩ := h
  obtain ⟨w1, w2, w3, w4, w5, w6, w7, w8, w9, w10⟩ := hw
  unfold f_X5_object f_X6_object f_X4_hasFirm
  rw [w3, w4, e_isBelow, e_in0 _ (by omega), Option.bind_some, Option.bind_some, gp_t bZ01, Option.bind_some]
  by_cases c1 : 0 ≤ a1 ∧ a1 < nI nF
  · obtain ⟨f, hf, rfl⟩ := ofIn (by omega) c1
    rw [isIn hf (by omega), if_neg one_ne, if_neg one_ne]
    unfold f_X4_addObject
    rw [w5, w6]
    by_cases q : nO = 48
    · subst q
      rw [if_neg (show ¬ nI 48 < 48 by decide), if_pos (show nI 48 = 48 from rfl)]
      exact ⟨-3, I, R, WI, WA, GI, GA, LI, LA, LJ, Mi, Ma, Mj,  rfl, rfl, nF, _, nG, nE, hb, ⟨w1, w2, w3, w4, w5, w6, w7, w8, w9, w10⟩, hg, hl, hk, hc⟩
    · have hlt : nO < 48 := by omega
      rw [if_pos (show nI nO < 48 from (nI_ltI (b := 48) (by omega) (by decide)).mpr hlt), if_neg (show ¬ nI nO = 48 from fun z => q ((nI_eq (b := 48) (by omega) (by decide)).mp z)), gd_t hlt (by decide), gd_t hlt (by decide), nI_clamp (by omega), xa1]
      refine ⟨upd WI 6 (nI (nO + 1)) 6 - 1, I, R, upd WI 6 (nI (nO + 1)), aS WA 2 nO (nI f), GI, GA, LI, LA, LJ, upd Mi 7 (nI (nO + 1)), aS Ma 6 nO (nI f), Mj,  rfl, rfl, nF, nO + 1, nG, nE, hb, ⟨w1, by omega, w3, w4, rfl, rfl, w7, w8, ?_, w10⟩, hg, hl, hk, hc⟩
      intro o ho
      show upd (WA 2) nO (nI f) o = upd (Ma 6) nO (nI f) o ∧ ∃ g, g < nF ∧ upd (WA 2) nO (nI f) o = nI g
      unfold upd
      by_cases z : o = nO
      · rw [if_pos z, if_pos z]; exact ⟨rfl, f, hf, rfl⟩
      · rw [if_neg z, if_neg z]; exact w9 o (by omega)
  · rw [notIn c1, if_pos zero_t, if_pos zero_t]
    exact ⟨-2, I, R, WI, WA, GI, GA, LI, LA, LJ, Mi, Ma, Mj,  rfl, rfl, nF, nO, nG, nE, hb, ⟨w1, w2, w3, w4, w5, w6, w7, w8, w9, w10⟩, hg, hl, hk, hc⟩

