/-! reading, writing, glasses, the record's answers -/
theorem Rw_set {WI : Nat → Int32} {WA : Nat → Nat → Int32} {Mi : Nat → Int32} {Ma : Nat → Nat → Int32} {nF nO u f : Nat} (h : Rw WI WA Mi Ma nF nO) (hu : u < 12) (hf : f < nF) (hc : ¬ WA 0 f = -1) :
    Rw WI (aS WA 3 u (WA 3 u ||| ((1 : Int32) <<< (nI f &&& 31)))) Mi (aS Ma 2 u (Ma 2 u ||| ((1 : Int32) <<< (nI f &&& 31)))) nF nO ∧ Rw WI (aS WA 4 u (WA 4 u ||| ((1 : Int32) <<< (nI f &&& 31)))) Mi (aS Ma 3 u (Ma 3 u ||| ((1 : Int32) <<< (nI f &&& 31)))) nF nO := by
  obtain ⟨w1, w2, w3, w4, w5, w6, w7, w8, w9, w10⟩ := h
  have bits : ∀ (x : Int32), (∀ i, bI x i = true → i < nF ∧ ¬ WA 0 i = -1) → ∀ i, bI (x ||| ((1 : Int32) <<< (nI f &&& 31))) i = true → i < nF ∧ ¬ WA 0 i = -1 := by
    intro x hx i hi
    rw [bI_or, bI_shl1 (by omega)] at hi
    by_cases q : bI x i = true
    · exact hx i q
    · have q2 : i = f := by
        rw [Bool.eq_false_iff.mpr q, Bool.false_or] at hi
        exact of_decide_eq_true hi
      rw [q2]; exact ⟨hf, hc⟩
  constructor
  · refine ⟨w1, w2, w3, w4, w5, w6, w7, w8, w9, fun v hv => ?_⟩
    obtain ⟨y1, y2, y3, y4⟩ := w10 v hv
    show upd (WA 3) u _ v = upd (Ma 2) u _ v ∧ WA 4 v = Ma 3 v ∧ (∀ i, bI (upd (WA 3) u _ v) i = true → i < nF ∧ ¬ WA 0 i = -1) ∧ (∀ i, bI (WA 4 v) i = true → i < nF ∧ ¬ WA 0 i = -1)
    by_cases q : v = u
    · subst q
      rw [pk_us, pk_us, y1]
      exact ⟨rfl, y2, bits _ (by rw [← y1]; exact y3), y4⟩
    · rw [pk_un q, pk_un q]
      exact ⟨y1, y2, y3, y4⟩
  · refine ⟨w1, w2, w3, w4, w5, w6, w7, w8, w9, fun v hv => ?_⟩
    obtain ⟨y1, y2, y3, y4⟩ := w10 v hv
    show WA 3 v = Ma 2 v ∧ upd (WA 4) u _ v = upd (Ma 3) u _ v ∧ (∀ i, bI (WA 3 v) i = true → i < nF ∧ ¬ WA 0 i = -1) ∧ (∀ i, bI (upd (WA 4) u _ v) i = true → i < nF ∧ ¬ WA 0 i = -1)
    by_cases q : v = u
    · subst q
      rw [pk_us, pk_us, y2]
      exact ⟨y1, rfl, y3, bits _ (by rw [← y2]; exact y4)⟩
    · rw [pk_un q, pk_un q]
      exact ⟨y1, y2, y3, y4⟩
theorem e_full3 {LI : Nat → Int32} (LA : Nat → Nat → Int32) (LJ : Nat → Nat → Int64) {nE : Nat} (h : LI 2 = nI nE) (hE : nE ≤ 240) : f_X3_isFull LI LA LJ = some (bZ (nE = 240)) := by
  unfold f_X3_isFull
  rw [h]
  by_cases q : nE = 240
  · subst q; rw [if_neg (show ¬ nI 240 < 240 by decide), bZ_t rfl]
  · rw [if_pos (show nI nE < 240 from (nI_ltI (b := 240) (by omega) (by decide)).mpr (by omega)), bZ_f q]
theorem eq240 {nE : Nat} (hE : nE ≤ 240) : nI nE = 240 ↔ nE = 240 := nI_eq (b := 240) (by omega) (by decide)
/-- why it is refused, the glasses not looked at: 0, WALL or LEAK on both sides -/
theorem e_why {WI : Nat → Int32} {WA : Nat → Nat → Int32} {Mi : Nat → Int32} {Ma : Nat → Nat → Int32} {nF nO N u f : Nat} (Mj : Nat → Nat → Int64) (hN : 250 ≤ N) (h : Rw WI WA Mi Ma nF nO) (hu : u < 12) (hf : f < nF) (ob s : Int32) (hs : s = 1 ∨ s = 2) :
    ∃ w : Int32, (if s = 2 then f_X4_onWriting WI WA (nI u) (nI f) else f_X4_onReading WI WA (nI u) (nI f)) = some w ∧ (f_X6_isWalled N Mi Ma Mj (nI u) (nI f)).bind (fun x61 => (if x61 = 0 then f_X6_access_48 N Mi Ma Mj (nI u) ob s (nI f) 0 else f_X6_access_48 N Mi Ma Mj (nI u) ob s (nI f) (-11))) = f_X6_access_125 N Mi Ma Mj (nI u) ob s (nI f) w := by
  obtain ⟨b, e1, e2, e3⟩ := e_walled Mj hN h hu hf
  obtain ⟨w1, w2, w3, w4, w5, w6, w7, w8, w9, w10⟩ := h
  obtain ⟨y1, y2, y3, y4⟩ := w10 u hu
  have n11 : ¬ (-11 : Int32) = 0 := by decide
  have hop : f_X6_isOpen Mi Ma Mj (nI f) = some (bZ (WA 0 f = -1)) := by
    unfold f_X6_isOpen
    rw [gd_t (by omega) (by decide), nI_clamp (by omega), ← (w7 f hf).1]
    rcases (w7 f hf).2 with q | ⟨c, hc, q⟩
    · rw [q, if_neg (by decide), bZ_t rfl]
    · rw [q, if_pos (nI_pos' (by omega)), bZ_f (nm1 (by omega))]
  have g12 : ∀ k : Option (Int32 × (Nat → Int32) × (Nat → Nat → Int32) × (Nat → Nat → Int64)), gd (nI u) 12 k = k := fun k => gd_t (by omega) (by decide)
  have wall : ∀ s : Int32, f_X6_access_48 N Mi Ma Mj (nI u) ob s (nI f) (-11) = f_X6_access_125 N Mi Ma Mj (nI u) ob s (nI f) (-11) := by
    intro s
    unfold f_X6_access_48
    rw [g12, g12, hop, Option.bind_some]
    simp only [if_neg n11, ite_self]
  rw [e2, Option.bind_some]
  unfold f_X4_onWriting f_X4_onReading
  rw [e1, Option.bind_some, Option.bind_some]
  cases b with
  | false =>
    rw [show bB (!false) = 1 from rfl, if_neg one_ne, wall, show bB false = 0 from rfl, if_pos zero_t, if_pos zero_t]
    exact ⟨-11, by simp, rfl⟩
  | true =>
    rw [show bB (!true) = 0 from rfl, if_pos zero_t, show bB true = 1 from rfl, if_neg one_ne, if_neg one_ne]
    rcases hs with rfl | rfl
    · refine ⟨0, by rw [if_neg (by decide)], ?_⟩
      unfold f_X6_access_48
      rw [g12, g12, hop, Option.bind_some]
      simp only [if_pos zero_t, if_neg (show ¬ (1 : Int32) = 2 by decide), ite_self]
    · rw [if_pos rfl, gd_t (by omega) (by decide), gd_t (by omega) (by decide), nI_clamp (by omega)]
      have key : ((WA 3 u ||| WA 4 u) &&& (((1 : Int32) <<< (nI f &&& 31)) ^^^ (-1)) = 0) ↔ (if WA 0 f = -1 then Ma 2 u ||| Ma 3 u = 0 else (Ma 2 u ||| Ma 3 u) &&& (((1 : Int32) <<< (nI f &&& 31)) ^^^ (-1)) = 0) := by
        rw [← y1, ← y2]
        by_cases q : WA 0 f = -1
        · rw [if_pos q, and_eq0, eq0_iff]
          constructor
          · intro z i
            by_cases hb : bI (WA 3 u ||| WA 4 u) i = true
            · exfalso
              refine z i hb ?_
              have hne : ¬ i = f := by
                intro e
                rw [bI_or] at hb
                rcases Bool.or_eq_true_iff.mp hb with hb | hb
                · exact (y3 i hb).2 (by rw [e]; exact q)
                · exact (y4 i hb).2 (by rw [e]; exact q)
              rw [bI_not, bI_shl1 (by omega), decide_eq_false hne, decide_eq_true (bI_lt hb)]
              rfl
            · simpa using hb
          · intro z i hb
            rw [z i] at hb; cases hb
        · rw [if_neg q]
      unfold f_X6_access_48
      rw [g12, g12, hop, Option.bind_some, nI_clamp (by omega)]
      simp only [if_pos zero_t, if_true]
      by_cases q : WA 0 f = -1
      · rw [if_pos q] at key
        rw [bZ_t q, if_neg one_ne]
        by_cases q2 : Ma 2 u ||| Ma 3 u = 0
        · rw [if_pos q2, if_pos (key.mpr q2)]
          exact ⟨0, rfl, rfl⟩
        · rw [if_neg q2, if_neg (fun z => q2 (key.mp z))]
          exact ⟨-12, rfl, rfl⟩
      · rw [if_neg q] at key
        rw [bZ_f q, if_pos zero_t]
        by_cases q2 : (Ma 2 u ||| Ma 3 u) &&& (((1 : Int32) <<< (nI f &&& 31)) ^^^ (-1)) = 0
        · rw [if_pos q2, if_pos (key.mpr q2)]
          exact ⟨0, rfl, rfl⟩
        · rw [if_neg q2, if_neg (fun z => q2 (key.mp z))]
          exact ⟨-12, rfl, rfl⟩

theorem m_reach {N : Nat} (hN : 250 ≤ N) {I : Nat → Int32} {R : Nat → Int32} {WI : Nat → Int32} {WA : Nat → Nat → Int32} {GI : Nat → Int32} {GA : Nat → Nat → Int32} {LI : Nat → Int32} {LA : Nat → Nat → Int32} {LJ : Nat → Nat → Int64} {nK : Nat} {nC : Nat} {KI : Nat → Nat → Int32} {KA : Nat → Nat → Nat → Int32} {CK : Nat → Nat} {CD : Nat → Nat → Int32} {Mi : Nat → Int32} {Ma : Nat → Nat → Int32} {Mj : Nat → Nat → Int64} (s a1 a2 : Int32) (hs : s = 1 ∨ s = 2) (h : Rel I R WI WA GI GA LI LA LJ nK nC KI KA CK CD Mi Ma Mj) : ∃ (r : Int32) (I' : Nat → Int32) (R' : Nat → Int32) (WI' : Nat → Int32) (WA' : Nat → Nat → Int32) (GI' : Nat → Int32) (GA' : Nat → Nat → Int32) (LI' : Nat → Int32) (LA' : Nat → Nat → Int32) (LJ' : Nat → Nat → Int64) (Mi' : Nat → Int32) (Ma' : Nat → Nat → Int32) (Mj' : Nat → Nat → Int64), 
    f_X5_reach N I R WI WA GI GA LI LA LJ s a1 a2 = some (r, I', R', WI', WA', GI', GA', LI', LA', LJ') ∧ f_X6_access N Mi Ma Mj a1 a2 s = some (r, Mi', Ma', Mj') ∧ Rel I' R' WI' WA' GI' GA' LI' LA' LJ' nK nC KI KA CK CD Mi' Ma' Mj' := by
  obtain ⟨nF, nO, nG, nE, hb, hw, hg, hl, hk, hc⟩ := h
  have hw' := hw
  obtain ⟨w1, w2, w3, w4, w5, w6, w7, w8, w9, w10⟩ := hw'
  have hl' := hl
  obtain ⟨l1, l2, l3, l4, l5⟩ := hl'
  unfold f_X5_reach f_X6_access
  rw [e_isUser5, e_isUser6, Option.bind_some, Option.bind_some]
  by_cases c1 : 0 ≤ a1 ∧ a1 < nI 12
  · obtain ⟨u, hu, rfl⟩ := ofIn (by decide) c1
    unfold f_X4_hasObject
    rw [isIn hu (by decide), if_neg one_ne, if_neg one_ne, w5, w6, e_isBelow, e_in0 _ (by omega), Option.bind_some, Option.bind_some, gp_t bZ01, Option.bind_some]
    by_cases c2 : 0 ≤ a2 ∧ a2 < nI nO
    · obtain ⟨ob, ho, rfl⟩ := ofIn (by omega) c2
      obtain ⟨o1, f, hf, o2⟩ := w9 ob ho
      rw [isIn ho (by omega), if_neg one_ne, if_neg one_ne, gd_t (by omega) (by decide), gd_t (by omega) (by decide), nI_clamp (by omega), ← o1, o2]
      obtain ⟨w, v1, v2⟩ := e_why Mj hN hw hu hf (nI ob) s hs
      rw [v2]
      have e5 : (if s = 2 then (f_X4_onWriting WI WA (nI u) (nI f)).bind (fun x38 => (if x38 = 0 then f_X5_reach_72 N I R WI WA GI GA LI LA LJ s (nI u) (nI ob) (nI f) x38 0 else f_X5_reach_72 N I R WI WA GI GA LI LA LJ s (nI u) (nI ob) (nI f) x38 1)) else (f_X4_onReading WI WA (nI u) (nI f)).bind (fun x36 => (if x36 = 0 then f_X5_reach_72 N I R WI WA GI GA LI LA LJ s (nI u) (nI ob) (nI f) x36 0 else f_X5_reach_72 N I R WI WA GI GA LI LA LJ s (nI u) (nI ob) (nI f) x36 1))) = (if w = 0 then f_X5_reach_72 N I R WI WA GI GA LI LA LJ s (nI u) (nI ob) (nI f) w 0 else f_X5_reach_72 N I R WI WA GI GA LI LA LJ s (nI u) (nI ob) (nI f) w 1) := by
        by_cases q : s = 2
        · rw [if_pos q] at v1 ⊢
          rw [v1, Option.bind_some]
        · rw [if_neg q] at v1 ⊢
          rw [v1, Option.bind_some]
      rw [e5]
      unfold f_X5_reach_72 f_X6_access_125
      have g12 : ∀ k : Option (Int32 × (Nat → Int32) × (Nat → Nat → Int32) × (Nat → Nat → Int64)), gd (nI u) 12 k = k := fun k => gd_t (by omega) (by decide)
      have g12' : ∀ k : Option ((Nat → Int32) × (Nat → Nat → Int32)), gd (nI u) 12 k = k := fun k => gd_t (by omega) (by decide)
      by_cases q : w = 0
      · subst q
        rw [if_pos zero_t, if_pos zero_t, if_pos zero_t, if_pos zero_t]
        unfold f_X5_reach_99 f_X6_access_160 f_X6_access_216
        rw [e_full3 LA LJ l2 l1, Option.bind_some, l3]
        by_cases q2 : nE = 240
        · rw [bZ_t q2, if_neg one_ne, if_pos ((eq240 l1).mpr q2)]
          exact ⟨-3, I, R, WI, WA, GI, GA, LI, LA, LJ, Mi, Ma, Mj,  rfl, rfl, nF, nO, nG, nE, hb, hw, hg, hl, hk, hc⟩
        · rw [bZ_f q2, if_pos zero_t, if_neg (fun z => q2 ((eq240 l1).mp z))]
          have hE : nE < 240 := by omega
          have as0 : f_X5_asNumber 0 = some 0 := rfl
          simp only [if_true, as0, Option.bind_some]
          unfold f_X4_teachFirm
          rw [gd_t (by omega) (by decide), nI_clamp (by omega), e_add (by omega) hE LA LJ l2]
          have hop : f_X6_isOpen Mi Ma Mj (nI f) = some (bZ (WA 0 f = -1)) := by
            unfold f_X6_isOpen
            rw [gd_t (by omega) (by decide), nI_clamp (by omega), ← (w7 f hf).1]
            rcases (w7 f hf).2 with q | ⟨c, hc, q⟩
            · rw [q, if_neg (by decide), bZ_t rfl]
            · rw [q, if_pos (nI_pos' (by omega)), bZ_f (nm1 (by omega))]
          rw [hop, Option.bind_some, g12, g12, g12', g12', nI_clamp (by omega), e_enter (by omega) hE _ Mj l3, e_enter (by omega) hE _ Mj l3, hb.1]
          by_cases q3 : WA 0 f = -1
          · rw [if_pos q3, bZ_t q3, if_neg one_ne]
            exact ⟨0, I, R, WI, WA, GI, GA, upd LI 2 (nI (nE + 1)), aW LA 0 (put5 (LA 0) nE s (nI u) (nI ob) 0 (Mi 0)), jS LJ 1 nE (lnkAt (put5 (LA 0) nE s (nI u) (nI ob) 0 (Mi 0)) (LJ 1) nE), upd Mi 25 (nI (nE + 1)), aW Ma 23 (put5 (Ma 23) nE s (nI u) (nI ob) 0 (Mi 0)), jS Mj 24 nE (lnkAt (put5 (Ma 23) nE s (nI u) (nI ob) 0 (Mi 0)) (Mj 24) nE),  rfl, rfl, nF, nO, nG, nE + 1, hb, hw, hg, Rl_add hl hE _ _ _ _ _, hk, hc⟩
          · rw [if_neg q3, bZ_f q3, if_pos zero_t]
            have hl2 : Rl LI LA LJ Mi (aS Ma 2 u (Ma 2 u ||| ((1 : Int32) <<< (nI f &&& 31)))) Mj nE := hl
            exact ⟨0, I, R, WI, aS WA 3 u (WA 3 u ||| ((1 : Int32) <<< (nI f &&& 31))), GI, GA, upd LI 2 (nI (nE + 1)), aW LA 0 (put5 (LA 0) nE s (nI u) (nI ob) 0 (Mi 0)), jS LJ 1 nE (lnkAt (put5 (LA 0) nE s (nI u) (nI ob) 0 (Mi 0)) (LJ 1) nE), upd Mi 25 (nI (nE + 1)), aW (aS Ma 2 u (Ma 2 u ||| ((1 : Int32) <<< (nI f &&& 31)))) 23 (put5 ((aS Ma 2 u (Ma 2 u ||| ((1 : Int32) <<< (nI f &&& 31)))) 23) nE s (nI u) (nI ob) 0 (Mi 0)), jS Mj 24 nE (lnkAt (put5 ((aS Ma 2 u (Ma 2 u ||| ((1 : Int32) <<< (nI f &&& 31)))) 23) nE s (nI u) (nI ob) 0 (Mi 0)) (Mj 24) nE),  rfl, rfl, nF, nO, nG, nE + 1, hb, (Rw_set hw hu hf q3).1, hg, Rl_add hl2 hE _ _ _ _ _, hk, hc⟩
      · rw [if_neg q, if_neg one_ne, if_neg q, hb.1]
        obtain ⟨z, z1, z2, z3⟩ := e_runs Mj hN hg (nI u) (nI f)
        rw [z1, z2, Option.bind_some, Option.bind_some]
        cases z with
        | false =>
          rw [show bB false = 0 from rfl, if_pos zero_t, if_pos zero_t, if_neg q]
          exact ⟨w, I, R, WI, WA, GI, GA, LI, LA, LJ, Mi, Ma, Mj,  rfl, rfl, nF, nO, nG, nE, hb, hw, hg, hl, hk, hc⟩
        | true =>
          rw [show bB true = 1 from rfl, if_neg one_ne, if_neg one_ne, if_neg q]
          obtain ⟨f', hf', ef, hop⟩ := z3 rfl
          have ef2 : f' = f := ((nI_eq (by omega) (by omega)).mp ef).symm
          rw [ef2] at hop
          unfold f_X5_reach_99 f_X6_access_160 f_X6_access_216
          rw [e_full3 LA LJ l2 l1, Option.bind_some, l3]
          by_cases q2 : nE = 240
          · rw [bZ_t q2, if_neg one_ne, if_pos ((eq240 l1).mpr q2)]
            exact ⟨-3, I, R, WI, WA, GI, GA, LI, LA, LJ, Mi, Ma, Mj,  rfl, rfl, nF, nO, nG, nE, hb, hw, hg, hl, hk, hc⟩
          · rw [bZ_f q2, if_pos zero_t, if_neg (fun z => q2 ((eq240 l1).mp z))]
            have hE : nE < 240 := by omega
            have as1 : f_X5_asNumber 1 = some 1 := rfl
            simp only [if_neg one_ne, as1, Option.bind_some]
            unfold f_X4_showFirm
            rw [g12, g12, g12', g12', nI_clamp (by omega), Option.bind_some, e_add (by omega) hE LA LJ l2, e_enter (by omega) hE _ Mj l3, hb.1]
            have hl2 : Rl LI LA LJ Mi (aS Ma 3 u (Ma 3 u ||| ((1 : Int32) <<< (nI f &&& 31)))) Mj nE := hl
            exact ⟨1, I, R, WI, aS WA 4 u (WA 4 u ||| ((1 : Int32) <<< (nI f &&& 31))), GI, GA, upd LI 2 (nI (nE + 1)), aW LA 0 (put5 (LA 0) nE s (nI u) (nI ob) 1 (Mi 0)), jS LJ 1 nE (lnkAt (put5 (LA 0) nE s (nI u) (nI ob) 1 (Mi 0)) (LJ 1) nE), upd Mi 25 (nI (nE + 1)), aW (aS Ma 3 u (Ma 3 u ||| ((1 : Int32) <<< (nI f &&& 31)))) 23 (put5 ((aS Ma 3 u (Ma 3 u ||| ((1 : Int32) <<< (nI f &&& 31)))) 23) nE s (nI u) (nI ob) 1 (Mi 0)), jS Mj 24 nE (lnkAt (put5 ((aS Ma 3 u (Ma 3 u ||| ((1 : Int32) <<< (nI f &&& 31)))) 23) nE s (nI u) (nI ob) 1 (Mi 0)) (Mj 24) nE),  rfl, rfl, nF, nO, nG, nE + 1, hb, (Rw_set hw hu hf hop).2, hg, Rl_add hl2 hE _ _ _ _ _, hk, hc⟩
    · rw [notIn c2, if_pos zero_t, if_pos zero_t]
      exact ⟨-2, I, R, WI, WA, GI, GA, LI, LA, LJ, Mi, Ma, Mj,  rfl, rfl, nF, nO, nG, nE, hb, hw, hg, hl, hk, hc⟩
  · rw [notIn c1, if_pos zero_t, if_pos zero_t]
    exact ⟨-2, I, R, WI, WA, GI, GA, LI, LA, LJ, Mi, Ma, Mj,  rfl, rfl, nF, nO, nG, nE, hb, hw, hg, hl, hk, hc⟩

theorem m_read {N : Nat} (hN : 250 ≤ N) {I : Nat → Int32} {R : Nat → Int32} {WI : Nat → Int32} {WA : Nat → Nat → Int32} {GI : Nat → Int32} {GA : Nat → Nat → Int32} {LI : Nat → Int32} {LA : Nat → Nat → Int32} {LJ : Nat → Nat → Int64} {nK : Nat} {nC : Nat} {KI : Nat → Nat → Int32} {KA : Nat → Nat → Nat → Int32} {CK : Nat → Nat} {CD : Nat → Nat → Int32} {Mi : Nat → Int32} {Ma : Nat → Nat → Int32} {Mj : Nat → Nat → Int64} (a1 : Int32) (a2 : Int32) (h : Rel I R WI WA GI GA LI LA LJ nK nC KI KA CK CD Mi Ma Mj) : ∃ (r : Int32) (I' : Nat → Int32) (R' : Nat → Int32) (WI' : Nat → Int32) (WA' : Nat → Nat → Int32) (GI' : Nat → Int32) (GA' : Nat → Nat → Int32) (LI' : Nat → Int32) (LA' : Nat → Nat → Int32) (LJ' : Nat → Nat → Int64) (Mi' : Nat → Int32) (Ma' : Nat → Nat → Int32) (Mj' : Nat → Nat → Int64), 
    f_X5_read N I R WI WA GI GA LI LA LJ a1 a2 = some (r, I', R', WI', WA', GI', GA', LI', LA', LJ') ∧ f_X6_read N Mi Ma Mj a1 a2 = some (r, Mi', Ma', Mj') ∧ Rel I' R' WI' WA' GI' GA' LI' LA' LJ' nK nC KI KA CK CD Mi' Ma' Mj' := by
  obtain ⟨r, I', R', WI', WA', GI', GA', LI', LA', LJ', Mi', Ma', Mj', e1, e2, e3⟩ := m_reach hN 1 a1 a2 (by decide) h
  unfold f_X5_read f_X6_read
  rw [e1, e2]
  exact ⟨r, I', R', WI', WA', GI', GA', LI', LA', LJ', Mi', Ma', Mj', rfl, rfl, e3⟩

theorem m_write {N : Nat} (hN : 250 ≤ N) {I : Nat → Int32} {R : Nat → Int32} {WI : Nat → Int32} {WA : Nat → Nat → Int32} {GI : Nat → Int32} {GA : Nat → Nat → Int32} {LI : Nat → Int32} {LA : Nat → Nat → Int32} {LJ : Nat → Nat → Int64} {nK : Nat} {nC : Nat} {KI : Nat → Nat → Int32} {KA : Nat → Nat → Nat → Int32} {CK : Nat → Nat} {CD : Nat → Nat → Int32} {Mi : Nat → Int32} {Ma : Nat → Nat → Int32} {Mj : Nat → Nat → Int64} (a1 : Int32) (a2 : Int32) (h : Rel I R WI WA GI GA LI LA LJ nK nC KI KA CK CD Mi Ma Mj) : ∃ (r : Int32) (I' : Nat → Int32) (R' : Nat → Int32) (WI' : Nat → Int32) (WA' : Nat → Nat → Int32) (GI' : Nat → Int32) (GA' : Nat → Nat → Int32) (LI' : Nat → Int32) (LA' : Nat → Nat → Int32) (LJ' : Nat → Nat → Int64) (Mi' : Nat → Int32) (Ma' : Nat → Nat → Int32) (Mj' : Nat → Nat → Int64), 
    f_X5_write N I R WI WA GI GA LI LA LJ a1 a2 = some (r, I', R', WI', WA', GI', GA', LI', LA', LJ') ∧ f_X6_write N Mi Ma Mj a1 a2 = some (r, Mi', Ma', Mj') ∧ Rel I' R' WI' WA' GI' GA' LI' LA' LJ' nK nC KI KA CK CD Mi' Ma' Mj' := by
  obtain ⟨r, I', R', WI', WA', GI', GA', LI', LA', LJ', Mi', Ma', Mj', e1, e2, e3⟩ := m_reach hN 2 a1 a2 (by decide) h
  unfold f_X5_write f_X6_write
  rw [e1, e2]
  exact ⟨r, I', R', WI', WA', GI', GA', LI', LA', LJ', Mi', Ma', Mj', rfl, rfl, e3⟩

