/-! cases: open, doer, canEnd -/
theorem e_task {I : Nat → Int32} {nK nC : Nat} {KI : Nat → Nat → Int32} {KA : Nat → Nat → Nat → Int32} {CK : Nat → Nat} {CD : Nat → Nat → Int32} {Mi : Nat → Int32} {Ma : Nat → Nat → Int32} (Mj : Nat → Nat → Int64) (hk : Rk I nK KI KA Mi Ma) (hc : Rc I nK nC KI CK CD Mi Ma) (a b : Int32) :
    (kIx nC b = none ∧ f_X6_isTask Mi Ma Mj a b = some 0) ∨ ∃ c t, c < nC ∧ b = nI c ∧ kIx nC b = some c ∧ t ≤ 6 ∧ KI (CK c) 4 = nI t ∧ f_X6_isTask Mi Ma Mj a b = some (bZ (0 ≤ a ∧ a < nI t)) := by
  obtain ⟨k1, k2, k3, k4, -⟩ := hk
  obtain ⟨c1, c2, c3, c4, c5⟩ := hc
  unfold f_X6_isTask
  rw [c3, e_in0 _ (by omega), Option.bind_some]
  by_cases q : 0 ≤ b ∧ b < nI nC
  · obtain ⟨c, hcn, rfl⟩ := ofIn (by omega) q
    obtain ⟨y1, y2, -⟩ := c4 c hcn
    obtain ⟨t, t6, q4, q13, -⟩ := k4 (CK c) y1
    rw [isIn hcn (by omega), if_neg one_ne, gd_t (by omega) (by decide), nI_clamp (by omega), y2, gd_t (by omega) (by decide), nI_clamp (by omega), q13, e_in0 _ (by omega), Option.bind_some]
    refine Or.inr ⟨c, t, hcn, rfl, kIx_some hcn (by omega), t6, q4, ?_⟩
    unfold bZ
    by_cases z : 0 ≤ a ∧ a < nI t
    · rw [if_pos z, if_neg one_ne]
    · rw [if_neg z, if_pos zero_t]
  · rw [notIn q, if_pos zero_t]
    exact Or.inl ⟨kIx_none q, rfl⟩
theorem caseD0_v : ∀ t, t < 6 → caseD0 t = -1 := by decide
theorem m_open {N : Nat} (hN : 250 ≤ N) {I : Nat → Int32} {R : Nat → Int32} {WI : Nat → Int32} {WA : Nat → Nat → Int32} {GI : Nat → Int32} {GA : Nat → Nat → Int32} {LI : Nat → Int32} {LA : Nat → Nat → Int32} {LJ : Nat → Nat → Int64} {nK : Nat} {nC : Nat} {KI : Nat → Nat → Int32} {KA : Nat → Nat → Nat → Int32} {CK : Nat → Nat} {CD : Nat → Nat → Int32} {Mi : Nat → Int32} {Ma : Nat → Nat → Int32} {Mj : Nat → Nat → Int64} (a1 : Int32) (h : Rel I R WI WA GI GA LI LA LJ nK nC KI KA CK CD Mi Ma Mj) :
    (∃ r, oBad nK KI I a1 = some r ∧ f_X6_open N Mi Ma Mj a1 = some (r, Mi, Ma, Mj)) ∨ ∃ i, kIx nK a1 = some i ∧ ¬ KI i 4 = 0 ∧ nC < 16 ∧ ∃ (Mi' : Nat → Int32) (Ma' : Nat → Nat → Int32), f_X6_open N Mi Ma Mj a1 = some ((upd I 7 (I 7 + 1)) 7 - 1, Mi', Ma', Mj) ∧ Rel (upd I 7 (I 7 + 1)) R WI WA GI GA LI LA LJ nK (nC + 1) (uN KI i (upd (KI i) 6 1)) KA (uN CK nC i) (uN CD nC caseD0) (Mi') (Ma') Mj := by
  obtain ⟨nF, nO, nG, nE, hb, hw, hg, hl, hk, hc⟩ := h
  have hk' := hk
  obtain ⟨k1, k2, k3, k4, k5, k6⟩ := hk'
  obtain ⟨c1, c2, c3, c4, c5⟩ := hc
  unfold f_X6_open oBad
  rw [k3, e_in0 _ (by omega), Option.bind_some]
  by_cases q : 0 ≤ a1 ∧ a1 < nI nK
  · obtain ⟨i, hi, rfl⟩ := ofIn (by omega) q
    obtain ⟨t, t6, q4, q13, qr⟩ := k4 i hi
    rw [isIn hi (by omega), if_neg one_ne, gd_t (by omega) (by decide), nI_clamp (by omega), q13, kIx_some hi (by omega), c3]
    show (∃ r, (if KI i 4 = 0 then some (-2) else if I 7 < 16 then none else some (-3)) = some r ∧ _) ∨ _
    rw [q4, c2]
    by_cases q0 : t = 0
    · subst q0
      rw [if_pos (show nI 0 = 0 from rfl), if_pos (show nI 0 = 0 from rfl)]
      exact Or.inl ⟨-2, rfl, rfl⟩
    · have ht0 : ¬ nI t = 0 := nI_ne0 (by omega) (by omega)
      rw [if_neg ht0, if_neg ht0]
      by_cases q1 : nC = 16
      · subst q1
        rw [if_neg (show ¬ nI 16 < 16 by decide), if_pos (show nI 16 = 16 from rfl)]
        exact Or.inl ⟨-3, rfl, rfl⟩
      · have hn : nC < 16 := by omega
        rw [if_neg (show ¬ nI nC = 16 from fun z => q1 ((nI_eq (b := 16) (by omega) (by decide)).mp z)), gd_t hn (by decide), nI_clamp (by omega)]
        have loop : ∀ d v n (A : Nat → Nat → Int32), v + d = 6 → d < n → f_X6_open_50 N n Mi A Mj (nI v) = some (nI (nC + 1) - 1, upd Mi 22 (nI (nC + 1)), aW A 21 (fun q => if 6 * nC + v ≤ q ∧ q < 6 * nC + 6 then -1 else A 21 q), Mj) := by
          intro d
          induction d with
          | zero =>
            intro v n A hv hn
            obtain ⟨n, rfl⟩ : ∃ k, n = k + 1 := ⟨n - 1, by omega⟩
            have e : aW A 21 (fun q => if 6 * nC + v ≤ q ∧ q < 6 * nC + 6 then -1 else A 21 q) = A := by
              rw [show (fun q => if 6 * nC + v ≤ q ∧ q < 6 * nC + 6 then -1 else A 21 q) = A 21 from funext fun q => if_neg (by omega), aW_self]
            have hv6 : v = 6 := by omega
            rw [e, f_X6_open_50, if_pos (show (6 : Int32) ≤ nI v by rw [hv6]; decide), c3, xa1]
            rfl
          | succ d ih =>
            intro v n A hv hn
            obtain ⟨n, rfl⟩ : ∃ k, n = k + 1 := ⟨n - 1, by omega⟩
            have e6 : (6 : Int32) * nI nC + nI v = nI (6 * nC + v) := by rw [show (6 : Int32) = nI 6 from rfl, pk_mul, nI_add]
            rw [f_X6_open_50, if_neg (show ¬ 6 ≤ nI v from nI_ge (b := 6) (by omega) (by decide)), c3, e6, gd_t (by omega) (by decide), nI_clamp (by omega), xa1, ih (v + 1) n _ (by omega) (by omega)]
            have e : aW (aS A 21 (6 * nC + v) (-1)) 21 (fun q => if 6 * nC + (v + 1) ≤ q ∧ q < 6 * nC + 6 then -1 else (aS A 21 (6 * nC + v) (-1)) 21 q) = aW A 21 (fun q => if 6 * nC + v ≤ q ∧ q < 6 * nC + 6 then -1 else A 21 q) := by
              funext j q
              unfold aW
              by_cases hj : j = 21
              · rw [if_pos hj, if_pos hj]
                show (if 6 * nC + (v + 1) ≤ q ∧ q < 6 * nC + 6 then -1 else upd (A 21) (6 * nC + v) (-1) q) = _
                by_cases z : q = 6 * nC + v
                · subst z
                  rw [pk_us, ite_self, if_pos ⟨Nat.le_refl _, by omega⟩]
                · rw [pk_un z]
                  by_cases z2 : 6 * nC + v ≤ q ∧ q < 6 * nC + 6
                  · rw [if_pos z2, if_pos ⟨by omega, z2.2⟩]
                  · rw [if_neg z2, if_neg (fun z3 => z2 ⟨by omega, z3.2⟩)]
              · rw [if_neg hj, if_neg hj]
                unfold aS
                rw [if_neg hj]
            rw [e]
        have hl0 := loop 6 0 N (aS Ma 20 nC (nI i)) rfl (by omega)
        have hl0 : f_X6_open_50 N N Mi (aS Ma 20 nC (nI i)) Mj 0 = _ := hl0
        rw [hl0, xa1]
        refine Or.inr ⟨i, rfl, by rw [q4]; exact ht0, hn, _, _, rfl, nF, nO, nG, nE, hb, hw, hg, hl, ⟨k1, k2, k3, fun k hk => ?_, k5, k6⟩, ⟨by omega, rfl, rfl, fun c hc => ?_, fun k hk => ?_⟩⟩
        · by_cases z : k = i
          · subst z
            rw [uN_s]
            exact k4 k hk
          · rw [uN_n _ _ z]
            exact k4 k hk
        · by_cases z : c = nC
          · subst z
            rw [uN_s, uN_s]
            refine ⟨hi, (show upd (Ma 20) c (nI i) c = nI i from pk_us), fun t ht => ⟨?_, Or.inl (caseD0_v t ht)⟩⟩
            rw [caseD0_v t ht]
            exact (if_pos ⟨by omega, by omega⟩).symm
          · rw [uN_n _ _ z, uN_n _ _ z]
            obtain ⟨x1, x2, x3⟩ := c4 c (by omega)
            refine ⟨x1, (show upd (Ma 20) nC (nI i) c = nI (CK c) from by rw [pk_un z]; exact x2), fun t ht => ⟨?_, (x3 t ht).2⟩⟩
            rw [(x3 t ht).1]
            exact (if_neg (by omega)).symm
        · by_cases z : k = i
          · subst z
            rw [uN_s]
            refine ⟨fun z2 => absurd z2 (show ¬ upd (KI k) 6 1 6 = 0 by rw [pk_us]; decide), fun z2 => absurd (uN_s CK nC k) (z2 nC (by omega))⟩
          · rw [uN_n _ _ z, c5 k hk]
            refine ⟨fun z2 c hc => ?_, fun z2 c hc => ?_⟩
            · by_cases z3 : c = nC
              · rw [z3, uN_s]; exact fun z4 => z z4.symm
              · rw [uN_n _ _ z3]; exact z2 c (by omega)
            · have := z2 c (by omega)
              rw [uN_n _ _ (by omega)] at this
              exact this
  · rw [notIn q, if_pos zero_t, kIx_none q]
    exact Or.inl ⟨-2, rfl, rfl⟩
theorem m_doer {I : Nat → Int32} {R : Nat → Int32} {WI : Nat → Int32} {WA : Nat → Nat → Int32} {GI : Nat → Int32} {GA : Nat → Nat → Int32} {LI : Nat → Int32} {LA : Nat → Nat → Int32} {LJ : Nat → Nat → Int64} {nK : Nat} {nC : Nat} {KI : Nat → Nat → Int32} {KA : Nat → Nat → Nat → Int32} {CK : Nat → Nat} {CD : Nat → Nat → Int32} {Mi : Nat → Int32} {Ma : Nat → Nat → Int32} {Mj : Nat → Nat → Int64} (a1 a2 : Int32) (h : Rel I R WI WA GI GA LI LA LJ nK nC KI KA CK CD Mi Ma Mj) : ∃ r, f_X5_doer I R WI WA GI GA LI LA LJ nK nC KI KA CK CD a1 a2 = some r ∧ f_X6_doer Mi Ma Mj a1 a2 = some r := by
  obtain ⟨nF, nO, nG, nE, hb, hw, hg, hl, hk, hc⟩ := h
  unfold f_X5_doer f_X6_doer
  rcases e_task Mj hk hc a1 a2 with ⟨z1, z2⟩ | ⟨c, t, hcn, rfl, z1, t6, q4, z2⟩
  · rw [z1, z2, Option.bind_some, if_pos zero_t]
    exact ⟨-2, rfl, rfl⟩
  · rw [z1, z2, Option.bind_some]
    show ∃ r, f_X5_doer_10 I (CD c) (KI (CK c)) (KA (CK c)) R LI LA LJ a1 = some r ∧ _
    unfold f_X5_doer_10 f_X2_hasTask
    rw [q4, e_isBelow, Option.bind_some, gp_t bZ01, Option.bind_some]
    have hc16 := hc.1
    by_cases c1 : 0 ≤ a1 ∧ a1 < nI t
    · obtain ⟨j, hj, rfl⟩ := ofIn (by omega) c1
      have e6 : (6 : Int32) * nI c + nI j = nI (6 * c + j) := by rw [show (6 : Int32) = nI 6 from rfl, pk_mul, nI_add]
      rw [isIn hj (by omega), if_neg one_ne, if_neg one_ne, gd_t (by omega) (by decide), nI_clamp (by omega), e6, gd_t (by omega) (by decide), nI_clamp (by omega), ← ((hc.2.2.2.1 c hcn).2.2 j (by omega)).1]
      exact ⟨_, rfl, rfl⟩
    · rw [notIn c1, if_pos zero_t, if_pos zero_t]
      exact ⟨-2, rfl, rfl⟩
/-- whether a case can end: both searches, for any who did its tasks -/
theorem e_ends {c k : Nat} {D ki RL : Nat → Int32} {ka : Nat → Nat → Int32} {Ma : Nat → Nat → Int32} (Mi : Nat → Int32) (Mj : Nat → Nat → Int64) (hc : c < 16) (hk : k < 4) (h20 : Ma 20 c = nI k) (hX : KX k ki ka Ma) (hD : ∀ t, t < 6 → D t = Ma 21 (6 * c + t) ∧ (D t = -1 ∨ ∃ u, u < 12 ∧ D t = nI u)) (hR : ∀ u, u < 12 → RL u = Ma 1 u) :
    ∃ (b : Bool) (cc : Nat) (g : Nat → Int32), ∀ N, cc + 250 ≤ N → f_X0_couldEnd N D ki ka RL = some (bB b) ∧ f_X6_canBe N Mi Ma Mj (nI c) = some (bB b, Mi, aW Ma 26 g, Mj) := by
  obtain ⟨t, t6, q4, q13, ⟨m, m1, m6, m5, m18⟩, kj, p2, p3⟩ := hX
  have hC : CsP Ma c k t m D (fun t u => rol ka (RL u) t) := by
    refine ⟨hc, hk, t6, m6, m18, fun i hi => ⟨(hD i (by omega)).1.symm, (hD i (by omega)).2⟩, fun i hi => ?_⟩
    obtain ⟨x1, ⟨r, r8, x2⟩, -⟩ := kj i hi
    refine ⟨r, r8, by rw [← x1, x2], fun u hu => ?_⟩
    show bI (RL u) (ka 0 i).toNatClampNeg = bI (Ma 1 u) r
    rw [x2, nI_clamp (by omega), hR u hu]
  obtain ⟨b, cc, g, b1, b2⟩ := e_canBe hC Mi Mj h20 q13
  refine ⟨b, cc, g, fun N hN => ⟨?_, b2 N hN⟩⟩
  obtain ⟨b', y1, y2⟩ := e_could (N := N) (T := t) (m := m) (by omega) t6 m6 D RL q4 m5 (fun j hj => (kj j hj).2.1)
  have h3 := (y2.trans (e_same (m := m) t6 (fun t ht => (hD t ht).2) (RL := RL) p2 p3)).trans b1.symm
  rw [y1, Bool.eq_iff_iff.mpr h3]
theorem Rel_26 {I : Nat → Int32} {R : Nat → Int32} {WI : Nat → Int32} {WA : Nat → Nat → Int32} {GI : Nat → Int32} {GA : Nat → Nat → Int32} {LI : Nat → Int32} {LA : Nat → Nat → Int32} {LJ : Nat → Nat → Int64} {nK : Nat} {nC : Nat} {KI : Nat → Nat → Int32} {KA : Nat → Nat → Nat → Int32} {CK : Nat → Nat} {CD : Nat → Nat → Int32} {Mi : Nat → Int32} {Ma : Nat → Nat → Int32} {Mj : Nat → Nat → Int64} (g : Nat → Int32) (h : Rel I R WI WA GI GA LI LA LJ nK nC KI KA CK CD Mi Ma Mj) : Rel I R WI WA GI GA LI LA LJ nK nC KI KA CK CD Mi (aW Ma 26 g) Mj := by
  obtain ⟨nF, nO, nG, nE, hb, hw, hg, hl, hk, hc⟩ := h
  exact ⟨nF, nO, nG, nE, hb, hw, hg, hl, hk, hc⟩
theorem m_canEnd {I : Nat → Int32} {R : Nat → Int32} {WI : Nat → Int32} {WA : Nat → Nat → Int32} {GI : Nat → Int32} {GA : Nat → Nat → Int32} {LI : Nat → Int32} {LA : Nat → Nat → Int32} {LJ : Nat → Nat → Int64} {nK : Nat} {nC : Nat} {KI : Nat → Nat → Int32} {KA : Nat → Nat → Nat → Int32} {CK : Nat → Nat} {CD : Nat → Nat → Int32} {Mi : Nat → Int32} {Ma : Nat → Nat → Int32} {Mj : Nat → Nat → Int64} (a1 : Int32) (h : Rel I R WI WA GI GA LI LA LJ nK nC KI KA CK CD Mi Ma Mj) : ∃ (N : Nat) (r : Int32) (Ma' : Nat → Nat → Int32), f_X5_canEnd N I R WI WA GI GA LI LA LJ nK nC KI KA CK CD a1 = some r ∧ f_X6_canEnd N Mi Ma Mj a1 = some (r, Mi, Ma', Mj) ∧ Rel I R WI WA GI GA LI LA LJ nK nC KI KA CK CD Mi (Ma') Mj := by
  have h' := h
  obtain ⟨nF, nO, nG, nE, hb, hw, hg, hl, hk, hc⟩ := h
  obtain ⟨c1, c2, c3, c4, c5⟩ := hc
  by_cases q : 0 ≤ a1 ∧ a1 < nI nC
  · obtain ⟨c, hcn, rfl⟩ := ofIn (by omega) q
    obtain ⟨y1, y2, y3⟩ := c4 c hcn
    obtain ⟨b, cc, g, e⟩ := e_ends Mi Mj (by omega) (by have := hk.1; omega) y2 (hk.2.2.2.1 (CK c) y1) y3 hb.2
    obtain ⟨e1, e2⟩ := e (cc + 250) (Nat.le_refl _)
    refine ⟨cc + 250, bB b, aW Ma 26 g, ?_, ?_, Rel_26 g h'⟩
    · unfold f_X5_canEnd
      rw [kIx_some hcn (by omega)]
      show f_X5_canEnd_13 _ I (CD c) (KI (CK c)) (KA (CK c)) R LI LA LJ = _
      unfold f_X5_canEnd_13
      rw [e1, Option.bind_some, e_asNumber, Option.bind_some]
      cases b <;> rfl
    · unfold f_X6_canEnd
      rw [c3, e_in0 _ (by omega), Option.bind_some, isIn hcn (by omega), if_neg one_ne, e2, Option.bind_some]
      cases b <;> rfl
  · refine ⟨250, -2, Ma, ?_, ?_, h'⟩
    · unfold f_X5_canEnd
      rw [kIx_none q]
    · unfold f_X6_canEnd
      rw [c3, e_in0 _ (by omega), Option.bind_some, notIn q, if_pos zero_t]
