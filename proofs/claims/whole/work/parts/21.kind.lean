/-! kinds: both sides keep the same ones -/
theorem uN_n {α : Type} (f : Nat → α) {i j : Nat} (v : α) (h : ¬ j = i) : uN f i v j = f j := if_neg h
theorem uN_self {α : Type} (f : Nat → α) (i : Nat) : uN f i (f i) = f := by
  funext j
  unfold uN
  by_cases h : j = i
  · rw [if_pos h, h]
  · rw [if_neg h]
theorem KX_c {k : Nat} {ki : Nat → Int32} {ka Ma Ma' : Nat → Nat → Int32} (h : KX k ki ka Ma) (e13 : Ma' 13 k = Ma 13 k) (e18 : Ma' 18 k = Ma 18 k) (e14 : ∀ j, j < 6 → Ma' 14 (6 * k + j) = Ma 14 (6 * k + j)) (e15 : ∀ j, j < 6 → Ma' 15 (6 * k + j) = Ma 15 (6 * k + j)) (e16 : ∀ q, q < 36 → Ma' 16 (36 * k + q) = Ma 16 (36 * k + q)) (e17 : ∀ q, q < 36 → Ma' 17 (36 * k + q) = Ma 17 (36 * k + q)) : KX k ki ka Ma' := by
  obtain ⟨t, t6, k4, k13, ⟨m, m1, m6, m5, m18⟩, kj, p2, p3⟩ := h
  refine ⟨t, t6, k4, by rw [e13, k13], ⟨m, m1, m6, m5, by rw [e18, m18]⟩, fun j hj => ?_, ⟨fun a b ha hb => ?_, p2.2⟩, ⟨fun a b ha hb => ?_, p3.2⟩⟩
  · rw [e14 j (by omega), e15 j (by omega)]; exact kj j hj
  · show bI (ka 2 a) b = !decide (Ma' 16 (36 * k + (6 * a + b)) = 0) ∧ bI (ka 2 b) a = bI (ka 2 a) b
    rw [e16 _ (by omega)]; exact p2.1 a b ha hb
  · show bI (ka 3 a) b = !decide (Ma' 17 (36 * k + (6 * a + b)) = 0) ∧ bI (ka 3 b) a = bI (ka 3 a) b
    rw [e17 _ (by omega)]; exact p3.1 a b ha hb
theorem PM_up {M P : Nat → Int32} {t : Nat} (h : PM M P t) : PM M P (t + 1) := ⟨h.1, fun a i ha hi => by have := h.2 a i ha hi; exact ⟨by omega, by omega, this.2.2⟩⟩
theorem kIx_none {n : Nat} {a : Int32} (h : ¬ (0 ≤ a ∧ a < nI n)) : kIx n a = none := if_neg h
theorem kIx_some {n i : Nat} (h : i < n) (hn : n < 2 ^ 31) : kIx n (nI i) = some i := by
  unfold kIx
  rw [if_pos ⟨nI_pos' (by omega), nI_lt h hn⟩, nI_clamp (by omega)]
/-- a kind that is there and without cases -/
theorem e_free {I : Nat → Int32} {nK nC N : Nat} {KI : Nat → Nat → Int32} {KA : Nat → Nat → Nat → Int32} {CK : Nat → Nat} {CD : Nat → Nat → Int32} {Mi : Nat → Int32} {Ma : Nat → Nat → Int32} (Mj : Nat → Nat → Int64) (hN : 250 ≤ N) (hk : Rk I nK KI KA Mi Ma) (hc : Rc I nK nC KI CK CD Mi Ma) (a : Int32) :
    (kFree nK KI a = none ∧ f_X6_isFree N Mi Ma Mj a = some 0) ∨ ∃ k, k < nK ∧ a = nI k ∧ kFree nK KI a = some k ∧ f_X6_isFree N Mi Ma Mj a = some 1 ∧ KI k 6 = 0 := by
  obtain ⟨k1, k2, k3, -⟩ := hk
  obtain ⟨c1, c2, c3, c4, c5⟩ := hc
  unfold f_X6_isFree
  rw [k3, e_in0 _ (by omega), Option.bind_some]
  by_cases q : 0 ≤ a ∧ a < nI nK
  · obtain ⟨k, hk, rfl⟩ := ofIn (by omega) q
    rw [isIn hk (by omega), if_neg one_ne]
    have loop : ∀ d i n (v : Bool), i + d = nC → d < n → ∃ b : Bool, f_X6_isFree_20 N Mi Ma Mj n (nI k) (bB v) (nI i) = some (bB b) ∧ (b = true ↔ v = true ∧ ∀ c, i ≤ c → c < nC → ¬ CK c = k) := by
      intro d
      induction d with
      | zero =>
        intro i n v hi hn
        obtain ⟨n, rfl⟩ : ∃ k, n = k + 1 := ⟨n - 1, by omega⟩
        rw [f_X6_isFree_20, c3, if_pos (nI_le (by omega) (by omega)), gp_t (by cases v <;> decide)]
        exact ⟨v, rfl, fun z => ⟨z, fun c h1 h2 => by omega⟩, fun z => z.1⟩
      | succ d ih =>
        intro i n v hi hn
        obtain ⟨n, rfl⟩ : ∃ k, n = k + 1 := ⟨n - 1, by omega⟩
        obtain ⟨y1, y2, -⟩ := c4 i (by omega)
        rw [f_X6_isFree_20, c3, if_neg (nI_ge (show i < nC by omega) (by omega)), gd_t (by omega) (by decide), nI_clamp (by omega), y2, xa1]
        have f0 : (nI (CK i) = nI k) ↔ CK i = k := nI_eq (by omega) (by omega)
        have no : ∃ b : Bool, f_X6_isFree_20 N Mi Ma Mj n (nI k) 0 (nI (i + 1)) = some (bB b) ∧ b = false := by
          obtain ⟨b, b1, b2⟩ := ih (i + 1) n false (by omega) (by omega)
          refine ⟨b, b1, ?_⟩
          cases b with
          | false => rfl
          | true => exact absurd (b2.mp rfl).1 (by decide)
        cases v with
        | false =>
          rw [show bB false = 0 from rfl, if_pos zero_t]
          obtain ⟨b, b1, b2⟩ := no
          exact ⟨b, b1, fun z => (by rw [b2] at z; cases z), fun z => (by cases z.1)⟩
        | true =>
          rw [show bB true = 1 from rfl, if_neg one_ne]
          by_cases q2 : CK i = k
          · rw [if_pos (f0.mpr q2)]
            obtain ⟨b, b1, b2⟩ := no
            exact ⟨b, b1, fun z => (by rw [b2] at z; cases z), fun z => absurd q2 (z.2 i (Nat.le_refl i) (by omega))⟩
          · rw [if_neg (fun z => q2 (f0.mp z))]
            obtain ⟨b, b1, b2⟩ := ih (i + 1) n true (by omega) (by omega)
            refine ⟨b, b1, b2.trans ⟨fun z => ⟨z.1, fun c h1 h2 => ?_⟩, fun z => ⟨z.1, fun c h1 h2 => z.2 c (by omega) h2⟩⟩⟩
            by_cases e : c = i
            · rw [e]; exact q2
            · exact z.2 c (by omega) h2
    obtain ⟨b, b1, b2⟩ := loop nC 0 N true (by omega) (by omega)
    have b1 : f_X6_isFree_20 N Mi Ma Mj N (nI k) 1 0 = some (bB b) := b1
    rw [b1]
    have h5 := c5 k hk
    unfold kFree
    rw [kIx_some hk (by omega), Option.bind_some]
    by_cases q3 : KI k 6 = 0
    · refine Or.inr ⟨k, hk, rfl, by rw [if_pos q3], ?_, q3⟩
      rw [b2.mpr ⟨rfl, fun c _ h => h5.mp q3 c h⟩]; rfl
    · refine Or.inl ⟨by rw [if_neg q3], ?_⟩
      cases b with
      | false => rfl
      | true => exact absurd (h5.mpr fun c h => (b2.mp rfl).2 c (Nat.zero_le c) h) q3
  · rw [notIn q, if_pos zero_t]
    unfold kFree
    rw [kIx_none q]
    exact Or.inl ⟨rfl, rfl⟩
/-- kind() when there is no room -/
theorem m_kind_full {I : Nat → Int32} {R : Nat → Int32} {WI : Nat → Int32} {WA : Nat → Nat → Int32} {GI : Nat → Int32} {GA : Nat → Nat → Int32} {LI : Nat → Int32} {LA : Nat → Nat → Int32} {LJ : Nat → Nat → Int64} {nK : Nat} {nC : Nat} {KI : Nat → Nat → Int32} {KA : Nat → Nat → Nat → Int32} {CK : Nat → Nat} {CD : Nat → Nat → Int32} {Mi : Nat → Int32} {Ma : Nat → Nat → Int32} {Mj : Nat → Nat → Int64} (h : Rel I R WI WA GI GA LI LA LJ nK nC KI KA CK CD Mi Ma Mj) (hn : ¬ nK < 4) : ¬ I 6 < 4 ∧ f_X6_kind Mi Ma Mj = some (-3, Mi, Ma, Mj) := by
  obtain ⟨nF, nO, nG, nE, hb, hw, hg, hl, hk, hc⟩ := h
  obtain ⟨k1, k2, k3, -⟩ := hk
  have e : nK = 4 := by omega
  subst e
  unfold f_X6_kind
  rw [k2, k3, if_pos (show nI 4 = 4 from rfl)]
  exact ⟨by decide, rfl⟩
theorem m_kind_new {I : Nat → Int32} {R : Nat → Int32} {WI : Nat → Int32} {WA : Nat → Nat → Int32} {GI : Nat → Int32} {GA : Nat → Nat → Int32} {LI : Nat → Int32} {LA : Nat → Nat → Int32} {LJ : Nat → Nat → Int64} {nK : Nat} {nC : Nat} {KI : Nat → Nat → Int32} {KA : Nat → Nat → Nat → Int32} {CK : Nat → Nat} {CD : Nat → Nat → Int32} {Mi : Nat → Int32} {Ma : Nat → Nat → Int32} {Mj : Nat → Nat → Int64} (h : Rel I R WI WA GI GA LI LA LJ nK nC KI KA CK CD Mi Ma Mj) (hn : nK < 4) : ∃ (Mi' : Nat → Int32) (Ma' : Nat → Nat → Int32), f_X6_kind Mi Ma Mj = some ((upd I 6 (I 6 + 1)) 6 - 1, Mi', Ma', Mj) ∧ Rel (upd I 6 (I 6 + 1)) R WI WA GI GA LI LA LJ (nK + 1) nC (uN KI nK (upd (fun _ => 0) 5 6)) (uN KA nK (fun _ _ => 0)) CK CD (Mi') (Ma') Mj := by
  obtain ⟨nF, nO, nG, nE, hb, hw, hg, hl, hk, hc⟩ := h
  obtain ⟨k1, k2, k3, k4, k5, k6⟩ := hk
  obtain ⟨c1, c2, c3, c4, c5⟩ := hc
  unfold f_X6_kind
  rw [k2, k3, if_neg (show ¬ nI nK = 4 from fun z => by have := (nI_eq (b := 4) (by omega) (by decide)).mp z; omega), gd_t hn (by decide), nI_clamp (by omega), xa1]
  refine ⟨upd Mi 19 (nI (nK + 1)), aS Ma 18 nK 6, rfl, nF, nO, nG, nE, hb, hw, hg, hl, ⟨by omega, rfl, rfl, fun k hk => ?_, fun k h1 h2 => k5 k (by omega) h2, fun q h1 h2 => k6 q (by omega) h2⟩, ⟨c1, c2, c3, fun c hc => ?_, fun k hk => ?_⟩⟩
  · by_cases z : k = nK
    · subst z
      rw [uN_s, uN_s]
      refine ⟨0, by omega, rfl, k5 k (Nat.le_refl k) hn, ⟨6, by omega, by omega, rfl, ?_⟩, fun j hj => by omega, ⟨fun a b ha hb => ?_, fun a i _ hi => by rw [bI_0] at hi; cases hi⟩, ⟨fun a b ha hb => ?_, fun a i _ hi => by rw [bI_0] at hi; cases hi⟩⟩
      · show upd (Ma 18) k 6 k = nI 6
        rw [pk_us]; rfl
      · show bI 0 b = !decide (Ma 16 (36 * k + (6 * a + b)) = 0) ∧ bI 0 a = bI 0 b
        rw [(k6 (36 * k + (6 * a + b)) (by omega) (by omega)).1, bI_0, bI_0]
        exact ⟨rfl, rfl⟩
      · show bI 0 b = !decide (Ma 17 (36 * k + (6 * a + b)) = 0) ∧ bI 0 a = bI 0 b
        rw [(k6 (36 * k + (6 * a + b)) (by omega) (by omega)).2, bI_0, bI_0]
        exact ⟨rfl, rfl⟩
    · rw [uN_n _ _ z, uN_n _ _ z]
      exact KX_c (k4 k (by omega)) rfl (show upd (Ma 18) nK 6 k = Ma 18 k from pk_un z) (fun _ _ => rfl) (fun _ _ => rfl) (fun _ _ => rfl) (fun _ _ => rfl)
  · obtain ⟨x1, x2, x3⟩ := c4 c hc
    exact ⟨by omega, x2, x3⟩
  · by_cases z : k = nK
    · rw [z, uN_s]
      exact ⟨fun _ c hc e => by have := (c4 c hc).1; omega, fun _ => rfl⟩
    · rw [uN_n _ _ z]
      exact c5 k (by omega)
/-- a kind without cases is altered: the rest stays -/
theorem Rel_kind {I : Nat → Int32} {nK nC : Nat} {KI : Nat → Nat → Int32} {KA : Nat → Nat → Nat → Int32} {CK : Nat → Nat} {CD : Nat → Nat → Int32} {Mi : Nat → Int32} {Ma : Nat → Nat → Int32} {k : Nat} (hkn : k < nK) (hc : Rc I nK nC KI CK CD Mi Ma) (hk : Rk I nK KI KA Mi Ma) {ki : Nat → Int32} {ka : Nat → Nat → Int32} {Ma' : Nat → Nat → Int32} (h6 : ki 6 = KI k 6) (hX : KX k ki ka Ma') (e20 : Ma' 20 = Ma 20) (e21 : Ma' 21 = Ma 21)
    (e13 : ∀ j, ¬ j = k → Ma' 13 j = Ma 13 j) (e18 : ∀ j, ¬ j = k → Ma' 18 j = Ma 18 j) (e14 : ∀ q, ¬ q / 6 = k → Ma' 14 q = Ma 14 q) (e15 : ∀ q, ¬ q / 6 = k → Ma' 15 q = Ma 15 q) (e16 : ∀ q, ¬ q / 36 = k → Ma' 16 q = Ma 16 q) (e17 : ∀ q, ¬ q / 36 = k → Ma' 17 q = Ma 17 q) : Rk I nK (uN KI k ki) (uN KA k ka) Mi Ma' ∧ Rc I nK nC (uN KI k ki) CK CD Mi Ma' := by
  obtain ⟨k1, k2, k3, k4, k5, k6⟩ := hk
  obtain ⟨c1, c2, c3, c4, c5⟩ := hc
  refine ⟨⟨k1, k2, k3, fun j hj => ?_, fun j h1 h2 => by rw [e13 j (by omega)]; exact k5 j h1 h2, fun q h1 h2 => by rw [e16 q (by omega), e17 q (by omega)]; exact k6 q h1 h2⟩, ⟨c1, c2, c3, fun c hc => ?_, fun j hj => ?_⟩⟩
  · by_cases z : j = k
    · subst z; rw [uN_s, uN_s]; exact hX
    · rw [uN_n _ _ z, uN_n _ _ z]
      exact KX_c (k4 j hj) (e13 j z) (e18 j z) (fun i hi => e14 _ (by omega)) (fun i hi => e15 _ (by omega)) (fun i hi => e16 _ (by omega)) (fun i hi => e17 _ (by omega))
  · rw [e20, e21]; exact c4 c hc
  · by_cases z : j = k
    · subst z; rw [uN_s, h6]; exact c5 j hj
    · rw [uN_n _ _ z]; exact c5 j hj
theorem m_most {N : Nat} (hN : 250 ≤ N) {I : Nat → Int32} {R : Nat → Int32} {WI : Nat → Int32} {WA : Nat → Nat → Int32} {GI : Nat → Int32} {GA : Nat → Nat → Int32} {LI : Nat → Int32} {LA : Nat → Nat → Int32} {LJ : Nat → Nat → Int64} {nK : Nat} {nC : Nat} {KI : Nat → Nat → Int32} {KA : Nat → Nat → Nat → Int32} {CK : Nat → Nat} {CD : Nat → Nat → Int32} {Mi : Nat → Int32} {Ma : Nat → Nat → Int32} {Mj : Nat → Nat → Int64} (a1 a2 : Int32) (h : Rel I R WI WA GI GA LI LA LJ nK nC KI KA CK CD Mi Ma Mj) : ∃ (r : Int32) (I' : Nat → Int32) (KI' : Nat → Nat → Int32) (KA' : Nat → Nat → Nat → Int32) (Mi' : Nat → Int32) (Ma' : Nat → Nat → Int32) (Mj' : Nat → Nat → Int64), f_X5_most I R WI WA GI GA LI LA LJ nK nC KI KA CK CD a1 a2 = some (r, I', KI', KA') ∧ f_X6_most N Mi Ma Mj a1 a2 = some (r, Mi', Ma', Mj') ∧ Rel (I') R WI WA GI GA LI LA LJ nK nC (KI') (KA') CK CD (Mi') (Ma') (Mj') := by
  obtain ⟨nF, nO, nG, nE, hb, hw, hg, hl, hk, hc⟩ := h
  have in16 : f_X6_isIn a2 1 6 = some (bZ (¬ a2 < 1 ∧ a2 ≤ 6)) := by
    rw [e_isIn]; exact congrArg some (bZ_c (and_congr_left fun _ => Int32.not_lt.symm))
  unfold f_X5_most f_X6_most
  rcases e_free Mj hN hk hc a1 with ⟨z1, z2⟩ | ⟨k, hkn, rfl, z1, z2, z3⟩
  · rw [z1, z2, Option.bind_some, if_pos zero_t]
    exact ⟨-2, I, KI, KA, Mi, Ma, Mj, rfl, rfl, nF, nO, nG, nE, hb, hw, hg, hl, hk, hc⟩
  · rw [z1, z2, Option.bind_some, if_neg one_ne, in16, Option.bind_some]
    obtain ⟨t, t6, q4, q13, ⟨m, m1, m6, m5, m18⟩, kj, p2, p3⟩ := hk.2.2.2.1 k hkn
    show ∃ (r : Int32) (I' : Nat → Int32) (KI' : Nat → Nat → Int32) (KA' : Nat → Nat → Nat → Int32) (Mi' : Nat → Int32) (Ma' : Nat → Nat → Int32) (Mj' : Nat → Nat → Int64), (f_X5_most_10 I (KI k) (KA k) a2).bind (fun x => some (x.1, x.2.1, uN KI k x.2.2.1, uN KA k x.2.2.2)) = some (r, I', KI', KA') ∧ _ ∧ _
    unfold f_X5_most_10
    by_cases c1 : a2 < 1
    · rw [if_pos c1, bZ_f (fun z => z.1 c1), if_pos zero_t, Option.bind_some, uN_self, uN_self]
      exact ⟨-2, I, KI, KA, Mi, Ma, Mj, rfl, rfl, nF, nO, nG, nE, hb, hw, hg, hl, hk, hc⟩
    · rw [if_neg c1]
      by_cases c2 : a2 ≤ 6
      · have hk4 : k < 4 := by have := hk.1; omega
        obtain ⟨n, hn7, rfl⟩ := ofIn (a := a2) (n := 7) (by decide) ⟨Int32.le_trans (show (0 : Int32) ≤ 1 by decide) (Int32.not_lt.mp c1), (leP a2 (n := 7) (by decide)).mp c2⟩
        have n1 : 1 ≤ n := by
          rcases Nat.eq_zero_or_pos n with z | z
          · subst z; exact absurd (show nI 0 < 1 by decide) c1
          · exact z
        rw [if_pos c2, bZ_t ⟨c1, c2⟩, if_neg one_ne, gd_t hk4 (by decide), gd_t hk4 (by decide), nI_clamp (by omega), Option.bind_some, m5, m18]
        obtain ⟨r1, r2⟩ := Rel_kind hkn hc hk (ki := upd (KI k) 5 (nI n)) (ka := KA k) (Ma' := aS Ma 18 k (nI n)) rfl ⟨t, t6, q4, q13, ⟨n, n1, by omega, rfl, (show upd (Ma 18) k (nI n) k = nI n from pk_us)⟩, kj, p2, p3⟩ rfl rfl (fun _ _ => rfl) (fun j z => (show upd (Ma 18) k (nI n) j = Ma 18 j from pk_un z)) (fun _ _ => rfl) (fun _ _ => rfl) (fun _ _ => rfl) (fun _ _ => rfl)
        exact ⟨nI m, I, uN KI k (upd (KI k) 5 (nI n)), uN KA k (KA k), Mi, aS Ma 18 k (nI n), Mj, rfl, rfl, nF, nO, nG, nE, hb, hw, hg, hl, r1, r2⟩
      · rw [if_neg c2, bZ_f (fun z => c2 z.2), if_pos zero_t, Option.bind_some, uN_self, uN_self]
        exact ⟨-2, I, KI, KA, Mi, Ma, Mj, rfl, rfl, nF, nO, nG, nE, hb, hw, hg, hl, hk, hc⟩
/-- bits below t alone: a number below two to the t -/
theorem bits_lt (x : Int32) {t : Nat} (ht : t ≤ 6) : x &&& ((((1 : Int32) <<< (nI t &&& 31)) - 1) ^^^ (-1)) = 0 ↔ ∃ j, j < 2 ^ t ∧ x = nI j := by
  have h64 : 2 ^ t ≤ 64 := show 2 ^ t ≤ 2 ^ 6 from Nat.pow_le_pow_right (by decide) ht
  have e1 : ((1 : Int32) <<< (nI t &&& 31)) - 1 = nI (2 ^ t - 1) := by
    rw [shl1N (by omega)]
    exact pk_sub (a := 2 ^ t) (b := 1) (Nat.one_le_two_pow)
  rw [e1, and_not0 _ (by omega)]
  constructor
  · intro h
    refine ⟨x.toBitVec.toNat, ?_, ?_⟩
    · refine Nat.lt_pow_two_of_testBit _ (fun i hi => ?_)
      by_cases q : bI x i = true
      · have h2 := h i q
        rw [Nat.testBit_two_pow_sub_one] at h2
        have := of_decide_eq_true h2
        omega
      · exact Bool.eq_false_iff.mpr q
    · refine bI_ext fun i hi => ?_
      rw [bI_nI x.toBitVec.isLt]
      rfl
  · rintro ⟨j, hj, rfl⟩ i hi
    rw [bI_nI (by omega)] at hi
    rw [Nat.testBit_two_pow_sub_one]
    exact decide_eq_true (tb_lt hj hi)
theorem m_task {N : Nat} (hN : 250 ≤ N) {I : Nat → Int32} {R : Nat → Int32} {WI : Nat → Int32} {WA : Nat → Nat → Int32} {GI : Nat → Int32} {GA : Nat → Nat → Int32} {LI : Nat → Int32} {LA : Nat → Nat → Int32} {LJ : Nat → Nat → Int64} {nK : Nat} {nC : Nat} {KI : Nat → Nat → Int32} {KA : Nat → Nat → Nat → Int32} {CK : Nat → Nat} {CD : Nat → Nat → Int32} {Mi : Nat → Int32} {Ma : Nat → Nat → Int32} {Mj : Nat → Nat → Int64} (a1 a2 a3 : Int32) (h : Rel I R WI WA GI GA LI LA LJ nK nC KI KA CK CD Mi Ma Mj) : ∃ (r : Int32) (I' : Nat → Int32) (KI' : Nat → Nat → Int32) (KA' : Nat → Nat → Nat → Int32) (Mi' : Nat → Int32) (Ma' : Nat → Nat → Int32) (Mj' : Nat → Nat → Int64), f_X5_task I R WI WA GI GA LI LA LJ nK nC KI KA CK CD a1 a2 a3 = some (r, I', KI', KA') ∧ f_X6_task N Mi Ma Mj a1 a2 a3 = some (r, Mi', Ma', Mj') ∧ Rel (I') R WI WA GI GA LI LA LJ nK nC (KI') (KA') CK CD (Mi') (Ma') (Mj') := by
  obtain ⟨nF, nO, nG, nE, hb, hw, hg, hl, hk, hc⟩ := h
  unfold f_X5_task f_X6_task
  rcases e_free Mj hN hk hc a1 with ⟨z1, z2⟩ | ⟨k, hkn, rfl, z1, z2, z3⟩
  · rw [z1, z2, Option.bind_some, if_pos zero_t]
    exact ⟨-2, I, KI, KA, Mi, Ma, Mj, rfl, rfl, nF, nO, nG, nE, hb, hw, hg, hl, hk, hc⟩
  · rw [z1, z2, Option.bind_some, if_neg one_ne, show f_X6_isIn a2 0 7 = some (bZ (0 ≤ a2 ∧ a2 < nI 8)) from e_in0 a2 (n := 8) (by decide), Option.bind_some]
    obtain ⟨t, t6, q4, q13, ⟨m, m1, m6, m5, m18⟩, kj, p2, p3⟩ := hk.2.2.2.1 k hkn
    have hk4 : k < 4 := by have := hk.1; omega
    show ∃ (r : Int32) (I' : Nat → Int32) (KI' : Nat → Nat → Int32) (KA' : Nat → Nat → Nat → Int32) (Mi' : Nat → Int32) (Ma' : Nat → Nat → Int32) (Mj' : Nat → Nat → Int64), (f_X5_task_12 I (KI k) (KA k) a2 a3).bind (fun x => some (x.1, x.2.1, uN KI k x.2.2.1, uN KA k x.2.2.2)) = some (r, I', KI', KA') ∧ _ ∧ _
    unfold f_X5_task_12 f_X2_taskBits f_X2_addTask
    rw [show (8 : Int32) = nI 8 from rfl, e_isBelow, Option.bind_some, q4]
    by_cases c1 : 0 ≤ a2 ∧ a2 < nI 8
    · obtain ⟨r, r8, rfl⟩ := ofIn (by decide) c1
      rw [isIn r8 (by decide), if_neg one_ne, if_neg one_ne, Option.bind_some]
      simp only [gd_t hk4 (show (4 : Nat) < 2 ^ 31 by decide), nI_clamp (show k < 2 ^ 31 by omega), q13]
      have h64 : 2 ^ t ≤ 64 := show 2 ^ t ≤ 2 ^ 6 from Nat.pow_le_pow_right (by decide) t6
      by_cases c2 : ∃ j, j < 2 ^ t ∧ a3 = nI j
      · have hz := (bits_lt a3 t6).mpr c2
        obtain ⟨j, hj, rfl⟩ := c2
        rw [if_pos hz, if_neg (nI_pos (by omega)), shl1N (by omega), if_pos (nI_lt hj (by omega))]
        by_cases c3 : t = 6
        · subst c3
          rw [if_neg (show ¬ nI 6 < 6 by decide), if_pos (show nI 6 = 6 from rfl), Option.bind_some, Option.bind_some, uN_self, uN_self]
          exact ⟨-3, I, KI, KA, Mi, Ma, Mj, rfl, rfl, nF, nO, nG, nE, hb, hw, hg, hl, hk, hc⟩
        · have ht : t < 6 := by omega
          have e6 : (6 : Int32) * nI k + nI t = nI (6 * k + t) := by rw [show (6 : Int32) = nI 6 from rfl, pk_mul, nI_add]
          rw [if_pos (show nI t < 6 from (nI_ltI (b := 6) (by omega) (by decide)).mpr ht), if_neg (show ¬ nI t = 6 from fun z => c3 ((nI_eq (b := 6) (by omega) (by decide)).mp z)), gd_t ht (by decide), gd_t ht (by decide), Option.bind_some, Option.bind_some, e6, gd_t (show 6 * k + t < 24 by omega) (by decide), gd_t (show 6 * k + t < 24 by omega) (by decide), nI_clamp (show 6 * k + t < 2 ^ 31 by omega), nI_clamp (show t < 2 ^ 31 by omega), xa1]
          have e13 : (aS (aS Ma 14 (6 * k + t) (nI r)) 15 (6 * k + t) (nI j)) 13 k = nI t := q13
          rw [e13, xa1, show (upd (KI k) 4 (nI (t + 1))) 4 - 1 = nI t from nI_pred t]
          have u14 : ∀ i, ¬ i = 6 * k + t → upd (Ma 14) (6 * k + t) (nI r) i = Ma 14 i := fun i hi => pk_un hi
          have u15 : ∀ i, ¬ i = 6 * k + t → upd (Ma 15) (6 * k + t) (nI j) i = Ma 15 i := fun i hi => pk_un hi
          have hkj : ∀ i, i < t + 1 → upd (KA k 0) t (nI r) i = upd (Ma 14) (6 * k + t) (nI r) (6 * k + i) ∧ (∃ r', r' < 8 ∧ upd (KA k 0) t (nI r) i = nI r') ∧ upd (KA k 1) t (nI j) i = upd (Ma 15) (6 * k + t) (nI j) (6 * k + i) ∧ ∀ q, bI (upd (KA k 1) t (nI j) i) q = true → q < i := by
            intro i hi
            by_cases z : i = t
            · subst z
              rw [pk_us, pk_us, pk_us, pk_us]
              exact ⟨rfl, ⟨r, r8, rfl⟩, rfl, fun q hq => by rw [bI_nI (by omega)] at hq; exact tb_lt hj hq⟩
            · rw [pk_un z, pk_un z, u14 _ (by omega), u15 _ (by omega)]
              exact kj i (by omega)
          obtain ⟨r1, r2⟩ := Rel_kind hkn hc hk (ki := upd (KI k) 4 (nI (t + 1))) (ka := aS (aS (KA k) 0 t (nI r)) 1 t (nI j)) (Ma' := aS (aS (aS Ma 14 (6 * k + t) (nI r)) 15 (6 * k + t) (nI j)) 13 k (nI (t + 1))) rfl ⟨t + 1, by omega, rfl, (show upd (Ma 13) k (nI (t + 1)) k = nI (t + 1) from pk_us), ⟨m, m1, m6, m5, m18⟩, hkj, PM_up p2, PM_up p3⟩ rfl rfl (fun i z => (show upd (Ma 13) k (nI (t + 1)) i = Ma 13 i from pk_un z)) (fun _ _ => rfl) (fun q z => u14 q (fun z2 => z (by omega))) (fun q z => u15 q (fun z2 => z (by omega))) (fun _ _ => rfl) (fun _ _ => rfl)
          exact ⟨nI t, I, uN KI k (upd (KI k) 4 (nI (t + 1))), uN KA k (aS (aS (KA k) 0 t (nI r)) 1 t (nI j)), Mi, aS (aS (aS Ma 14 (6 * k + t) (nI r)) 15 (6 * k + t) (nI j)) 13 k (nI (t + 1)), Mj, rfl, rfl, nF, nO, nG, nE, hb, hw, hg, hl, r1, r2⟩
      · have hz : ¬ a3 &&& ((((1 : Int32) <<< (nI t &&& 31)) - 1) ^^^ (-1)) = 0 := fun z => c2 ((bits_lt a3 t6).mp z)
        rw [if_neg hz, Option.bind_some, uN_self, uN_self]
        by_cases c3 : a3 < 0
        · rw [if_pos c3]
          exact ⟨-2, I, KI, KA, Mi, Ma, Mj, rfl, rfl, nF, nO, nG, nE, hb, hw, hg, hl, hk, hc⟩
        · rw [if_neg c3, shl1N (by omega)]
          obtain ⟨j, hj, rfl⟩ := nI_of c3
          rw [if_neg (fun z => c2 ⟨j, (nI_ltI hj (by omega)).mp z, rfl⟩)]
          exact ⟨-2, I, KI, KA, Mi, Ma, Mj, rfl, rfl, nF, nO, nG, nE, hb, hw, hg, hl, hk, hc⟩
    · rw [notIn c1, if_pos zero_t, if_pos zero_t, Option.bind_some, uN_self, uN_self]
      exact ⟨-2, I, KI, KA, Mi, Ma, Mj, rfl, rfl, nF, nO, nG, nE, hb, hw, hg, hl, hk, hc⟩
theorem m_apart {N : Nat} (hN : 250 ≤ N) {I : Nat → Int32} {R : Nat → Int32} {WI : Nat → Int32} {WA : Nat → Nat → Int32} {GI : Nat → Int32} {GA : Nat → Nat → Int32} {LI : Nat → Int32} {LA : Nat → Nat → Int32} {LJ : Nat → Nat → Int64} {nK : Nat} {nC : Nat} {KI : Nat → Nat → Int32} {KA : Nat → Nat → Nat → Int32} {CK : Nat → Nat} {CD : Nat → Nat → Int32} {Mi : Nat → Int32} {Ma : Nat → Nat → Int32} {Mj : Nat → Nat → Int64} (a1 a2 a3 : Int32) (h : Rel I R WI WA GI GA LI LA LJ nK nC KI KA CK CD Mi Ma Mj) : ∃ (r : Int32) (I' : Nat → Int32) (KI' : Nat → Nat → Int32) (KA' : Nat → Nat → Nat → Int32) (Mi' : Nat → Int32) (Ma' : Nat → Nat → Int32) (Mj' : Nat → Nat → Int64), f_X5_apart I R WI WA GI GA LI LA LJ nK nC KI KA CK CD a1 a2 a3 = some (r, I', KI', KA') ∧ f_X6_apart N Mi Ma Mj a1 a2 a3 = some (r, Mi', Ma', Mj') ∧ Rel (I') R WI WA GI GA LI LA LJ nK nC (KI') (KA') CK CD (Mi') (Ma') (Mj') := by
  obtain ⟨nF, nO, nG, nE, hb, hw, hg, hl, hk, hc⟩ := h
  unfold f_X5_apart f_X6_apart f_X6_arePair
  rcases e_free Mj hN hk hc a1 with ⟨z1, z2⟩ | ⟨k, hkn, rfl, z1, z2, z3⟩
  · rw [z1, z2, Option.bind_some, if_pos zero_t, Option.bind_some, if_pos zero_t]
    exact ⟨-2, I, KI, KA, Mi, Ma, Mj, rfl, rfl, nF, nO, nG, nE, hb, hw, hg, hl, hk, hc⟩
  · rw [z1, z2, Option.bind_some, if_neg one_ne]
    obtain ⟨t, t6, q4, q13, qm, kj, p2, p3⟩ := hk.2.2.2.1 k hkn
    have hk4 : k < 4 := by have := hk.1; omega
    show ∃ (r : Int32) (I' : Nat → Int32) (KI' : Nat → Nat → Int32) (KA' : Nat → Nat → Nat → Int32) (Mi' : Nat → Int32) (Ma' : Nat → Nat → Int32) (Mj' : Nat → Nat → Int64), (f_X5_apart_12 I (KI k) (KA k) a2 a3).bind (fun x => some (x.1, x.2.1, uN KI k x.2.2.1, uN KA k x.2.2.2)) = some (r, I', KI', KA') ∧ _ ∧ _
    unfold f_X5_apart_12 f_X2_arePair f_X2_hasTask
    simp only [q4, e_isBelow, Option.bind_some, gp_t bZ01, gd_t hk4 (show (4 : Nat) < 2 ^ 31 by decide), nI_clamp (show k < 2 ^ 31 by omega), q13, e_in0 _ (show t < 2 ^ 31 by omega)]
    by_cases c1 : 0 ≤ a2 ∧ a2 < nI t
    · rw [bZ_t c1, if_neg one_ne, if_neg one_ne]
      by_cases c2 : 0 ≤ a3 ∧ a3 < nI t
      · rw [bZ_t c2, if_neg one_ne, if_neg one_ne]
        by_cases c3 : a2 = a3
        · rw [if_pos c3]
          simp only [Option.bind_some, if_true, uN_self]
          exact ⟨-2, I, KI, KA, Mi, Ma, Mj, rfl, rfl, nF, nO, nG, nE, hb, hw, hg, hl, hk, hc⟩
        · rw [if_neg c3]
          simp only [Option.bind_some, if_neg one_ne]
          obtain ⟨a, ha, rfl⟩ := ofIn (by omega) c1
          obtain ⟨b, hb2, rfl⟩ := ofIn (by omega) c2
          have hab : ¬ a = b := fun z => c3 (by rw [z])
          have hpr := e_pair (k := k) (a := a) (b := b) hk4 (by omega) (by omega)
          obtain ⟨q, hq, hql⟩ : ∃ q, (6 * (if a ≤ b then a else b) + (if a ≤ b then b else a)) = q ∧ q < 36 := by
            refine ⟨_, rfl, ?_⟩
            by_cases z : a ≤ b
            · rw [if_pos z, if_pos z]; omega
            · rw [if_neg z, if_neg z]; omega
          rw [hq] at hpr
          have hbit : bI (KA k 2 a) b = !decide (Ma 16 (36 * k + q) = 0) := by
            by_cases z : a ≤ b
            · rw [if_pos z, if_pos z] at hq
              have := (p2.1 a b (by omega) (by omega)).1
              rw [this, ← hq]
            · rw [if_neg z, if_neg z] at hq
              have h1 := p2.1 b a (by omega) (by omega)
              rw [h1.2, h1.1, ← hq]
          rw [hpr]
          simp only [Option.bind_some, gd_t (show 36 * k + q < 144 by omega) (show (144 : Nat) < 2 ^ 31 by decide), nI_clamp (show 36 * k + q < 2 ^ 31 by omega)]
          unfold f_X5_joinPair f_X5_joinPair_15
          simp only [gd_t (show a < 6 by omega) (show (6 : Nat) < 2 ^ 31 by decide), gd_t (show b < 6 by omega) (show (6 : Nat) < 2 ^ 31 by decide), nI_clamp (show a < 2 ^ 31 by omega), nI_clamp (show b < 2 ^ 31 by omega), e_hasBit _ (show b < 32 by omega), Option.bind_some]
          rw [pk_un (f := KA k 2) (k := a) (j := b) (fun z => hab z.symm)]
          obtain ⟨M', hM'⟩ : ∃ M' : Nat → Int32, upd (upd (KA k 2) a (KA k 2 a ||| ((1 : Int32) <<< (nI b &&& 31)))) b (KA k 2 b ||| ((1 : Int32) <<< (nI a &&& 31))) = M' := ⟨_, rfl⟩
          have hMb : ∀ x i, bI (M' x) i = (bI (KA k 2 x) i || (decide (x = a) && decide (i = b)) || (decide (x = b) && decide (i = a))) := by
            intro x i
            rw [← hM']
            by_cases z1 : x = b
            · subst z1
              rw [pk_us, bI_or, bI_shl1 (by omega), decide_eq_false (show ¬ x = a from fun z => hab z.symm)]
              simp
            · rw [pk_un z1]
              by_cases z2 : x = a
              · subst z2
                rw [pk_us, bI_or, bI_shl1 (by omega), decide_eq_false z1]
                simp
              · rw [pk_un z2, decide_eq_false z1, decide_eq_false z2]
                simp
          have hPq : ∀ x y, x < y → y < 6 → ((36 * k + (6 * x + y) = 36 * k + q) ↔ (x = a ∧ y = b) ∨ (x = b ∧ y = a)) := by
            intro x y h1 h2
            by_cases z : a ≤ b
            · rw [if_pos z, if_pos z] at hq; omega
            · rw [if_neg z, if_neg z] at hq; omega
          have pm : PM M' (fun z => upd (Ma 16) (36 * k + q) 1 (36 * k + z)) t := by
            refine ⟨fun x y h1 h2 => ?_, fun x i h1 h2 => ?_⟩
            · obtain ⟨g1, g2⟩ := p2.1 x y h1 h2
              show bI (M' x) y = !decide (upd (Ma 16) (36 * k + q) 1 (36 * k + (6 * x + y)) = 0) ∧ bI (M' y) x = bI (M' x) y
              rw [hMb, hMb, g2]
              by_cases z : (x = a ∧ y = b) ∨ (x = b ∧ y = a)
              · rw [(hPq x y h1 h2).mpr z, pk_us]
                rcases z with ⟨rfl, rfl⟩ | ⟨rfl, rfl⟩ <;> simp
              · rw [pk_un (fun y => z ((hPq _ _ h1 h2).mp y)), g1]
                have z1 : (decide (x = a) && decide (y = b)) = false := by
                  rw [Bool.eq_false_iff]
                  exact fun h => z (Or.inl (by simpa using h))
                have z2 : (decide (x = b) && decide (y = a)) = false := by
                  rw [Bool.eq_false_iff]
                  exact fun h => z (Or.inr (by simpa using h))
                have z3 : (decide (y = a) && decide (x = b)) = false := by rw [Bool.and_comm]; exact z2
                have z4 : (decide (y = b) && decide (x = a)) = false := by rw [Bool.and_comm]; exact z1
                rw [z1, z2, z3, z4]
                simp
            · rw [hMb] at h2
              by_cases z : bI (KA k 2 x) i = true
              · exact p2.2 x i h1 z
              · rw [Bool.eq_false_iff.mpr z] at h2
                have h3 : (x = a ∧ i = b) ∨ (x = b ∧ i = a) := by simpa using h2
                omega
          obtain ⟨r1, r2⟩ := Rel_kind hkn hc hk (ki := KI k) (ka := aW (KA k) 2 M') (Ma' := aS Ma 16 (36 * k + q) 1) rfl ⟨t, t6, q4, q13, qm, kj, pm, p3⟩ rfl rfl (fun _ _ => rfl) (fun _ _ => rfl) (fun _ _ => rfl) (fun _ _ => rfl) (fun z z2 => (show upd (Ma 16) (36 * k + q) 1 z = Ma 16 z from pk_un (fun z3 => z2 (by omega)))) (fun _ _ => rfl)
          have fin : ∀ r : Int32, ∃ (r' : Int32) (I' : Nat → Int32) (KI' : Nat → Nat → Int32) (KA' : Nat → Nat → Nat → Int32) (Mi' : Nat → Int32) (Ma' : Nat → Nat → Int32) (Mj' : Nat → Nat → Int64), some (r, I, uN KI k (KI k), uN KA k (aW (KA k) 2 M')) = some (r', I', KI', KA') ∧ some (r, Mi, aS Ma 16 (36 * k + q) 1, Mj) = some (r', Mi', Ma', Mj') ∧ Rel (I') R WI WA GI GA LI LA LJ nK nC (KI') (KA') CK CD (Mi') (Ma') (Mj') := fun r => ⟨r, I, uN KI k (KI k), uN KA k (aW (KA k) 2 M'), Mi, aS Ma 16 (36 * k + q) 1, Mj, rfl, rfl, nF, nO, nG, nE, hb, hw, hg, hl, r1, r2⟩
          rw [hM', hbit]
          by_cases c4 : Ma 16 (36 * k + q) = 0
          · rw [if_pos c4, decide_eq_true c4]
            exact fin 1
          · rw [if_neg c4, decide_eq_false c4]
            exact fin 0
      · rw [bZ_f c2, if_pos zero_t, if_pos zero_t, Option.bind_some, if_pos zero_t, Option.bind_some, uN_self, uN_self, ite_self, Option.bind_some, if_pos zero_t]
        exact ⟨-2, I, KI, KA, Mi, Ma, Mj, rfl, rfl, nF, nO, nG, nE, hb, hw, hg, hl, hk, hc⟩
    · rw [bZ_f c1, if_pos zero_t, if_pos zero_t, Option.bind_some, if_pos zero_t, Option.bind_some, uN_self, uN_self, ite_self, Option.bind_some, if_pos zero_t]
      exact ⟨-2, I, KI, KA, Mi, Ma, Mj, rfl, rfl, nF, nO, nG, nE, hb, hw, hg, hl, hk, hc⟩
theorem m_bound {N : Nat} (hN : 250 ≤ N) {I : Nat → Int32} {R : Nat → Int32} {WI : Nat → Int32} {WA : Nat → Nat → Int32} {GI : Nat → Int32} {GA : Nat → Nat → Int32} {LI : Nat → Int32} {LA : Nat → Nat → Int32} {LJ : Nat → Nat → Int64} {nK : Nat} {nC : Nat} {KI : Nat → Nat → Int32} {KA : Nat → Nat → Nat → Int32} {CK : Nat → Nat} {CD : Nat → Nat → Int32} {Mi : Nat → Int32} {Ma : Nat → Nat → Int32} {Mj : Nat → Nat → Int64} (a1 a2 a3 : Int32) (h : Rel I R WI WA GI GA LI LA LJ nK nC KI KA CK CD Mi Ma Mj) : ∃ (r : Int32) (I' : Nat → Int32) (KI' : Nat → Nat → Int32) (KA' : Nat → Nat → Nat → Int32) (Mi' : Nat → Int32) (Ma' : Nat → Nat → Int32) (Mj' : Nat → Nat → Int64), f_X5_bound I R WI WA GI GA LI LA LJ nK nC KI KA CK CD a1 a2 a3 = some (r, I', KI', KA') ∧ f_X6_bound N Mi Ma Mj a1 a2 a3 = some (r, Mi', Ma', Mj') ∧ Rel (I') R WI WA GI GA LI LA LJ nK nC (KI') (KA') CK CD (Mi') (Ma') (Mj') := by
  obtain ⟨nF, nO, nG, nE, hb, hw, hg, hl, hk, hc⟩ := h
  unfold f_X5_bound f_X6_bound f_X6_arePair
  rcases e_free Mj hN hk hc a1 with ⟨z1, z2⟩ | ⟨k, hkn, rfl, z1, z2, z3⟩
  · rw [z1, z2, Option.bind_some, if_pos zero_t, Option.bind_some, if_pos zero_t]
    exact ⟨-2, I, KI, KA, Mi, Ma, Mj, rfl, rfl, nF, nO, nG, nE, hb, hw, hg, hl, hk, hc⟩
  · rw [z1, z2, Option.bind_some, if_neg one_ne]
    obtain ⟨t, t6, q4, q13, qm, kj, p2, p3⟩ := hk.2.2.2.1 k hkn
    have hk4 : k < 4 := by have := hk.1; omega
    show ∃ (r : Int32) (I' : Nat → Int32) (KI' : Nat → Nat → Int32) (KA' : Nat → Nat → Nat → Int32) (Mi' : Nat → Int32) (Ma' : Nat → Nat → Int32) (Mj' : Nat → Nat → Int64), (f_X5_bound_12 I (KI k) (KA k) a2 a3).bind (fun x => some (x.1, x.2.1, uN KI k x.2.2.1, uN KA k x.2.2.2)) = some (r, I', KI', KA') ∧ _ ∧ _
    unfold f_X5_bound_12 f_X2_arePair f_X2_hasTask
    simp only [q4, e_isBelow, Option.bind_some, gp_t bZ01, gd_t hk4 (show (4 : Nat) < 2 ^ 31 by decide), nI_clamp (show k < 2 ^ 31 by omega), q13, e_in0 _ (show t < 2 ^ 31 by omega)]
    by_cases c1 : 0 ≤ a2 ∧ a2 < nI t
    · rw [bZ_t c1, if_neg one_ne, if_neg one_ne]
      by_cases c2 : 0 ≤ a3 ∧ a3 < nI t
      · rw [bZ_t c2, if_neg one_ne, if_neg one_ne]
        by_cases c3 : a2 = a3
        · rw [if_pos c3]
          simp only [Option.bind_some, if_true, uN_self]
          exact ⟨-2, I, KI, KA, Mi, Ma, Mj, rfl, rfl, nF, nO, nG, nE, hb, hw, hg, hl, hk, hc⟩
        · rw [if_neg c3]
          simp only [Option.bind_some, if_neg one_ne]
          obtain ⟨a, ha, rfl⟩ := ofIn (by omega) c1
          obtain ⟨b, hb2, rfl⟩ := ofIn (by omega) c2
          have hab : ¬ a = b := fun z => c3 (by rw [z])
          have hpr := e_pair (k := k) (a := a) (b := b) hk4 (by omega) (by omega)
          obtain ⟨q, hq, hql⟩ : ∃ q, (6 * (if a ≤ b then a else b) + (if a ≤ b then b else a)) = q ∧ q < 36 := by
            refine ⟨_, rfl, ?_⟩
            by_cases z : a ≤ b
            · rw [if_pos z, if_pos z]; omega
            · rw [if_neg z, if_neg z]; omega
          rw [hq] at hpr
          have hbit : bI (KA k 3 a) b = !decide (Ma 17 (36 * k + q) = 0) := by
            by_cases z : a ≤ b
            · rw [if_pos z, if_pos z] at hq
              have := (p3.1 a b (by omega) (by omega)).1
              rw [this, ← hq]
            · rw [if_neg z, if_neg z] at hq
              have h1 := p3.1 b a (by omega) (by omega)
              rw [h1.2, h1.1, ← hq]
          rw [hpr]
          simp only [Option.bind_some, gd_t (show 36 * k + q < 144 by omega) (show (144 : Nat) < 2 ^ 31 by decide), nI_clamp (show 36 * k + q < 2 ^ 31 by omega)]
          unfold f_X5_joinPair f_X5_joinPair_15
          simp only [gd_t (show a < 6 by omega) (show (6 : Nat) < 2 ^ 31 by decide), gd_t (show b < 6 by omega) (show (6 : Nat) < 2 ^ 31 by decide), nI_clamp (show a < 2 ^ 31 by omega), nI_clamp (show b < 2 ^ 31 by omega), e_hasBit _ (show b < 32 by omega), Option.bind_some]
          rw [pk_un (f := KA k 3) (k := a) (j := b) (fun z => hab z.symm)]
          obtain ⟨M', hM'⟩ : ∃ M' : Nat → Int32, upd (upd (KA k 3) a (KA k 3 a ||| ((1 : Int32) <<< (nI b &&& 31)))) b (KA k 3 b ||| ((1 : Int32) <<< (nI a &&& 31))) = M' := ⟨_, rfl⟩
          have hMb : ∀ x i, bI (M' x) i = (bI (KA k 3 x) i || (decide (x = a) && decide (i = b)) || (decide (x = b) && decide (i = a))) := by
            intro x i
            rw [← hM']
            by_cases z1 : x = b
            · subst z1
              rw [pk_us, bI_or, bI_shl1 (by omega), decide_eq_false (show ¬ x = a from fun z => hab z.symm)]
              simp
            · rw [pk_un z1]
              by_cases z2 : x = a
              · subst z2
                rw [pk_us, bI_or, bI_shl1 (by omega), decide_eq_false z1]
                simp
              · rw [pk_un z2, decide_eq_false z1, decide_eq_false z2]
                simp
          have hPq : ∀ x y, x < y → y < 6 → ((36 * k + (6 * x + y) = 36 * k + q) ↔ (x = a ∧ y = b) ∨ (x = b ∧ y = a)) := by
            intro x y h1 h2
            by_cases z : a ≤ b
            · rw [if_pos z, if_pos z] at hq; omega
            · rw [if_neg z, if_neg z] at hq; omega
          have pm : PM M' (fun z => upd (Ma 17) (36 * k + q) 1 (36 * k + z)) t := by
            refine ⟨fun x y h1 h2 => ?_, fun x i h1 h2 => ?_⟩
            · obtain ⟨g1, g2⟩ := p3.1 x y h1 h2
              show bI (M' x) y = !decide (upd (Ma 17) (36 * k + q) 1 (36 * k + (6 * x + y)) = 0) ∧ bI (M' y) x = bI (M' x) y
              rw [hMb, hMb, g2]
              by_cases z : (x = a ∧ y = b) ∨ (x = b ∧ y = a)
              · rw [(hPq x y h1 h2).mpr z, pk_us]
                rcases z with ⟨rfl, rfl⟩ | ⟨rfl, rfl⟩ <;> simp
              · rw [pk_un (fun y => z ((hPq _ _ h1 h2).mp y)), g1]
                have z1 : (decide (x = a) && decide (y = b)) = false := by
                  rw [Bool.eq_false_iff]
                  exact fun h => z (Or.inl (by simpa using h))
                have z2 : (decide (x = b) && decide (y = a)) = false := by
                  rw [Bool.eq_false_iff]
                  exact fun h => z (Or.inr (by simpa using h))
                have z3 : (decide (y = a) && decide (x = b)) = false := by rw [Bool.and_comm]; exact z2
                have z4 : (decide (y = b) && decide (x = a)) = false := by rw [Bool.and_comm]; exact z1
                rw [z1, z2, z3, z4]
                simp
            · rw [hMb] at h2
              by_cases z : bI (KA k 3 x) i = true
              · exact p3.2 x i h1 z
              · rw [Bool.eq_false_iff.mpr z] at h2
                have h3 : (x = a ∧ i = b) ∨ (x = b ∧ i = a) := by simpa using h2
                omega
          obtain ⟨r1, r2⟩ := Rel_kind hkn hc hk (ki := KI k) (ka := aW (KA k) 3 M') (Ma' := aS Ma 17 (36 * k + q) 1) rfl ⟨t, t6, q4, q13, qm, kj, p2, pm⟩ rfl rfl (fun _ _ => rfl) (fun _ _ => rfl) (fun _ _ => rfl) (fun _ _ => rfl) (fun _ _ => rfl) (fun z z2 => (show upd (Ma 17) (36 * k + q) 1 z = Ma 17 z from pk_un (fun z3 => z2 (by omega))))
          have fin : ∀ r : Int32, ∃ (r' : Int32) (I' : Nat → Int32) (KI' : Nat → Nat → Int32) (KA' : Nat → Nat → Nat → Int32) (Mi' : Nat → Int32) (Ma' : Nat → Nat → Int32) (Mj' : Nat → Nat → Int64), some (r, I, uN KI k (KI k), uN KA k (aW (KA k) 3 M')) = some (r', I', KI', KA') ∧ some (r, Mi, aS Ma 17 (36 * k + q) 1, Mj) = some (r', Mi', Ma', Mj') ∧ Rel (I') R WI WA GI GA LI LA LJ nK nC (KI') (KA') CK CD (Mi') (Ma') (Mj') := fun r => ⟨r, I, uN KI k (KI k), uN KA k (aW (KA k) 3 M'), Mi, aS Ma 17 (36 * k + q) 1, Mj, rfl, rfl, nF, nO, nG, nE, hb, hw, hg, hl, r1, r2⟩
          rw [hM', hbit]
          by_cases c4 : Ma 17 (36 * k + q) = 0
          · rw [if_pos c4, decide_eq_true c4]
            exact fin 1
          · rw [if_neg c4, decide_eq_false c4]
            exact fin 0
      · rw [bZ_f c2, if_pos zero_t, if_pos zero_t, Option.bind_some, if_pos zero_t, Option.bind_some, uN_self, uN_self, ite_self, Option.bind_some, if_pos zero_t]
        exact ⟨-2, I, KI, KA, Mi, Ma, Mj, rfl, rfl, nF, nO, nG, nE, hb, hw, hg, hl, hk, hc⟩
    · rw [bZ_f c1, if_pos zero_t, if_pos zero_t, Option.bind_some, if_pos zero_t, Option.bind_some, uN_self, uN_self, ite_self, Option.bind_some, if_pos zero_t]
      exact ⟨-2, I, KI, KA, Mi, Ma, Mj, rfl, rfl, nF, nO, nG, nE, hb, hw, hg, hl, hk, hc⟩
