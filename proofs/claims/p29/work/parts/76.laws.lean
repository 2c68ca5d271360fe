/-! the law's small functions -/
theorem x5 (e : Nat) : (5 : Int32) * nI e = nI (5 * e) := by rw [show (5 : Int32) = nI 5 from rfl, pk_mul]
theorem x2 (e : Nat) : (2 : Int32) * nI e = nI (2 * e) := by rw [show (2 : Int32) = nI 2 from rfl, pk_mul]
theorem n2 (k : Nat) : nI k + 2 = nI (k + 2) := by rw [show (2 : Int32) = nI 2 from rfl, nI_add]
theorem n3 (k : Nat) : nI k + 3 = nI (k + 3) := by rw [show (3 : Int32) = nI 3 from rfl, nI_add]
theorem n4 (k : Nat) : nI k + 4 = nI (k + 4) := by rw [show (4 : Int32) = nI 4 from rfl, nI_add]
theorem iT {k n : Nat} (h : k < n) (hn : n ≤ 1000) : inR (nI k) n = True := i_inT h (by omega)
theorem i03 : inR 0 3 = True := eq_true (by decide)
theorem i13 : inR 1 3 = True := eq_true (by decide)
theorem i23 : inR 2 3 = True := eq_true (by decide)
theorem i012 : inR 0 12 = True := eq_true (by decide)
theorem i112 : inR 1 12 = True := eq_true (by decide)
theorem z0 : (0 : Int32).toNatClampNeg = 0 := by decide
theorem z1 : (1 : Int32).toNatClampNeg = 1 := by decide
theorem z2 : (2 : Int32).toNatClampNeg = 2 := by decide
theorem cN {k : Nat} (h : k ≤ 1000000) : (nI k).toNatClampNeg = k := nI_c (by omega)
theorem lE {a b : Nat} (ha : a ≤ 1000000) (hb : b ≤ 1000000) : (nI a ≤ nI b) = (a ≤ b) := i_le (by omega) (by omega)
theorem l0 {a : Nat} (ha : a ≤ 1000000) : (nI a < 0) = False := eq_false (nI_pos (by omega))
theorem m1lt : (nI 0 - 1 < 0) = True := by decide
theorem le12 {k : Nat} (hk : k ≤ 1000000) : ((12 : Int32) ≤ nI k) = (12 ≤ k) := i_le (a := 12) (by decide) (by omega)
theorem b3i (b : Bool) : ((if b = true then (1 : Int32) else 0) = 1) = (b = true) := by cases b <;> decide
theorem b3n (b : Bool) : ((if b = true then (1 : Int32) else 0) = 0) = (b = false) := by cases b <;> decide
theorem c_cell {M : SM} {b L k : Nat} (hb : mK M b = (5, L)) (hL : L ≤ 260) (hk : k ≤ 1000) : ∃ v, cl 59 [.ref b, .int (nI k)] M = some (some (.int v), M) := by
  show ∃ v, rn 59 0 [some (.ref b), some (.int (nI k))] [] M = _
  have hle : (Int32.ofNat L ≤ nI k) = (L ≤ k) := lE (by omega) (by omega)
  by_cases q : L ≤ k
  · refine ⟨791501339 * nI (k + 1) + 1248562189, ?_⟩
    simp only [t59_0, t59_1, t59_2, t59_3, t59_6, t59_7, t59_8, t59_9, t59_12, t59_14, t59_15, t59_16, t59_17, t59_18, t59_20, t59_21, hb, or_true, ↓reduceIte, hle, q, n1]
  · refine ⟨mI M b k, ?_⟩
    simp only [t59_0, t59_1, t59_2, t59_3, t59_6, t59_7, t59_8, t59_9, t59_12, t59_14, t59_15, t59_16, t59_17, t59_18, t59_20, t59_21, hb, or_true, ↓reduceIte, hle, q, iT (show k < L by omega) (by omega), and_self, cN (show k ≤ 1000000 by omega)]
theorem c_low {M : SM} (v : Int32) {m : Nat} (h0 : 0 < m) (hm : m ≤ 1000) : ∃ r, r < m ∧ cl 60 [.int v, .int (nI m)] M = some (some (.int (nI r)), M) := by
  have e := pk_and v (m := 2147483647) 31 (by decide)
  have hne : ¬ nI m = 0 := nI_ne0 h0 (by omega)
  obtain ⟨t, ht, ev⟩ : ∃ t, t < 2 ^ 31 ∧ v &&& 2147483647 = nI t := ⟨_, Nat.mod_lt _ (by decide), e⟩
  refine ⟨t % m, Nat.mod_lt _ h0, ?_⟩
  show rn 60 0 [some (.int v), some (.int (nI m))] [] M = _
  simp only [t60_0, t60_1, t60_3, t60_4, ev, t60_5 hne, t60_6, pk_rem ht h0 (show m < 2 ^ 31 by omega)]
/-! what entries lean on -/
theorem ln_b {nd ln : Nat → Int64} {n : Nat} (hb : ∀ e, e < n → ∀ k, bt (nd e) k = true → k < e) (hl : ∀ e, e < n → ln e = orL (nd e) ln e) : ∀ e, e < n → ∀ k, bt (ln e) k = true → k < e := by
  intro e
  induction e using Nat.strongRecOn with
  | _ e ih =>
    intro he k hk
    rw [hl e he, orL_iff] at hk
    rcases hk with h | ⟨j, h1, h2, h3⟩
    · exact hb e he k h
    · have := ih j h1 (by omega) k h3
      omega
theorem ln_cl {nd ln : Nat → Int64} {n : Nat} (hb : ∀ e, e < n → ∀ k, bt (nd e) k = true → k < e) (hl : ∀ e, e < n → ln e = orL (nd e) ln e) : ∀ e, e < n → ∀ i, bt (ln e) i = true ↔ bt (nd e) i = true ∨ ∃ j, j < e ∧ bt (ln e) j = true ∧ bt (nd j) i = true := by
  intro e
  induction e using Nat.strongRecOn with
  | _ e ih =>
    intro he i
    have hi : ∀ i, bt (ln e) i = true ↔ bt (nd e) i = true ∨ ∃ k, k < e ∧ bt (nd e) k = true ∧ bt (ln k) i = true := fun i => by rw [hl e he, orL_iff]
    constructor
    · intro h
      rcases (hi i).mp h with h | ⟨k, h1, h2, h3⟩
      · exact Or.inl h
      · refine Or.inr ?_
        rcases (ih k h1 (by omega) i).mp h3 with h | ⟨j, j1, j2, j3⟩
        · exact ⟨k, h1, (hi k).mpr (Or.inl h2), h⟩
        · exact ⟨j, by omega, (hi j).mpr (Or.inr ⟨k, h1, h2, j2⟩), j3⟩
    · rintro (h | ⟨j, j1, j2, j3⟩)
      · exact (hi i).mpr (Or.inl h)
      · rcases (hi j).mp j2 with h | ⟨k, k1, k2, k3⟩
        · exact (hi i).mpr (Or.inr ⟨j, j1, h, by rw [hl j (by omega), orL_iff]; exact Or.inl j3⟩)
        · exact (hi i).mpr (Or.inr ⟨k, k1, k2, (ih k k1 (by omega) i).mpr (Or.inr ⟨j, ln_b hb hl k (by omega) j k3, k3, j3⟩)⟩)
/-- the law's row of dependencies -/
def DeR (X : Nat → Int32) (nd : Nat → Int64) (n : Nat) : Prop := ∀ e, e < n → X e = s32 (nd e)
theorem c_leans3 {M : SM} {d n e : Nat} {nd ln : Nat → Int64} (hk : mK M d = (1, 12)) (n12 : n ≤ 12) (he : e < n) (hD : DeR (mI M d) nd n) (hb : ∀ e, e < n → ∀ k, bt (nd e) k = true → k < e) (hl : ∀ e, e < n → ln e = orL (nd e) ln e) :
    cl 62 [.int (nI e), .ref d] M = some (some (.int (s32 (ln e))), M) := by
  have hcl := ln_cl hb hl e he
  have hlb := ln_b hb hl e he
  have lp : ∀ m, m ≤ e → ∀ x, w12 x → (∀ i, bt x i = true ↔ bt (nd e) i = true ∨ ∃ j, m ≤ j ∧ j < e ∧ bt (ln e) j = true ∧ bt (nd j) i = true) →
      rn 62 8 [some (.int (nI e)), some (.ref d), some (.int (s32 x)), some (.int (nI m - 1))] [] M = some (some (.int (s32 (ln e))), M) := by
    intro m
    induction m with
    | zero =>
      intro _ x hx hP
      have : x = ln e := bt_ext fun i _ => by
        rw [Bool.eq_iff_iff, hP, hcl]
        simp
      rw [this, t62_8]
      simp only [t62_0, t62_1, t62_2, t62_3, t62_4, t62_5, t62_6, t62_7, t62_9, t62_12, t62_13, t62_14, t62_15, t62_16, t62_17, t62_18, t62_19, t62_22, t62_23, t62_24, t62_25, t62_28, t62_29, t62_30, t62_31, t62_34, t62_37, t62_38, m1lt, ↓reduceIte]
    | succ m ih =>
      intro hm x hx hP
      have hbit : bt x m = true ↔ bt (ln e) m = true := by
        rw [hP, hcl]
        constructor
        · rintro (h | ⟨j, _, j2, j3, j4⟩)
          · exact Or.inl h
          · exact Or.inr ⟨j, j2, j3, j4⟩
        · rintro (h | ⟨j, j2, j3, j4⟩)
          · exact Or.inl h
          · exact Or.inr ⟨j, hb j (by omega) m j4, j2, j3, j4⟩
      have hX : mI M d m = s32 (nd m) := hD m (by omega)
      have wm : w12 (nd m) := fun k hk => by have := hb m (by omega) k hk; omega
      rw [nI_pred, t62_8]
      have ih := ih (by omega)
      rw [Int32.sub_eq_add_neg] at ih
      cases hq : bt x m with
      | true =>
        have ih := ih (x ||| nd m) (w12_or hx wm) (by
          intro i
          rw [bt_or, Bool.or_eq_true, hP]
          constructor
          · rintro ((h | ⟨j, j1, j2, j3, j4⟩) | h)
            · exact Or.inl h
            · exact Or.inr ⟨j, by omega, j2, j3, j4⟩
            · exact Or.inr ⟨m, Nat.le_refl _, by omega, hbit.mp hq, h⟩
          · rintro (h | ⟨j, j1, j2, j3, j4⟩)
            · exact Or.inl (Or.inl h)
            · by_cases q : j = m
              · subst q; exact Or.inr j4
              · exact Or.inl (Or.inr ⟨j, by omega, j2, j3, j4⟩))
        simp only [t62_0, t62_1, t62_2, t62_3, t62_4, t62_5, t62_6, t62_7, t62_9, t62_12, t62_13, t62_14, t62_15, t62_16, t62_17, t62_18, t62_19, t62_22, t62_23, t62_24, t62_25, t62_28, t62_29, t62_30, t62_31, t62_34, t62_37, t62_38, l0 (show m ≤ 1000000 by omega), b3_read (show m < 32 by omega), b3_w hx, hq, ↓reduceIte, not_true_eq_false, hk, true_or, iT (show m < 12 by omega) (by decide), and_self, cN (show m ≤ 1000000 by omega), hX, s32_or]
        exact ih
      | false =>
        have ih := ih x hx (by
          intro i
          rw [hP]
          constructor
          · rintro (h | ⟨j, j1, j2, j3, j4⟩)
            · exact Or.inl h
            · exact Or.inr ⟨j, by omega, j2, j3, j4⟩
          · rintro (h | ⟨j, j1, j2, j3, j4⟩)
            · exact Or.inl h
            · by_cases q : j = m
              · subst q
                rw [← hbit, hq] at j3
                cases j3
              · exact Or.inr ⟨j, by omega, j2, j3, j4⟩)
        have z01 : ((0 : Int32) = 1) = False := by decide
        simp only [t62_0, t62_1, t62_2, t62_3, t62_4, t62_5, t62_6, t62_7, t62_9, t62_12, t62_13, t62_14, t62_15, t62_16, t62_17, t62_18, t62_19, t62_22, t62_23, t62_24, t62_25, t62_28, t62_29, t62_30, t62_31, t62_34, t62_37, t62_38, l0 (show m ≤ 1000000 by omega), b3_read (show m < 32 by omega), b3_w hx, hq, Bool.false_eq_true, ↓reduceIte, z01, not_false_eq_true, Int32.or_zero]
        exact ih
  have we : w12 (nd e) := fun k hk => by have := hb e he k hk; omega
  have h0 := lp e (Nat.le_refl _) (nd e) we (fun i => ⟨fun h => Or.inl h, fun h => h.elim id (fun ⟨j, j1, j2, _⟩ => by omega)⟩)
  show rn 62 0 [some (.int (nI e)), some (.ref d), none, none] [] M = _
  simp only [t62_0, t62_1, t62_2, t62_3, t62_4, t62_5, t62_6, t62_7, t62_9, t62_12, t62_13, t62_14, t62_15, t62_16, t62_17, t62_18, t62_19, t62_22, t62_23, t62_24, t62_25, t62_28, t62_29, t62_30, t62_31, t62_34, t62_37, t62_38, hk, true_or, iT (show e < 12 by omega) (by decide), and_self, ↓reduceIte, cN (show e ≤ 1000000 by omega), hD e he]
  exact h0
/-- the law's counts -/
def QR (X : Nat → Int32) (n R : Nat) (lost : Int64) : Prop := X 0 = nI n ∧ X 1 = nI R ∧ X 2 = s32 lost
theorem c_orphans3 {M : SM} {q d n : Nat} {nd ln : Nat → Int64} {x : Int64} (hq : mK M q = (1, 3)) (hk : mK M d = (1, 12)) (n12 : n ≤ 12) (hn : mI M q 0 = nI n) (hx : w12 x) (hD : DeR (mI M d) nd n) (hb : ∀ e, e < n → ∀ k, bt (nd e) k = true → k < e) (hl : ∀ e, e < n → ln e = orL (nd e) ln e) :
    cl 61 [.int (s32 x), .ref q, .ref d] M = some (some (.int (s32 (orpB ln n x))), M) := by
  obtain ⟨p, hp⟩ : ∃ p : Nat → Bool, p = fun e => !bt x e && !decide (ln e &&& x = 0) := ⟨_, rfl⟩
  have hR : m32 p n = s32 (orpB ln n x) := by
    rw [m32_s n12]
    congr 1
    apply bt_ext
    intro i hi
    unfold orpB
    rw [bt_and, bt_not _ hi, bt_mk _ _ _ (by omega), bt_mk _ _ _ (by omega), hp]
    dsimp only
    cases decide (i < n) <;> cases bt x i <;> cases decide (ln i &&& x = 0) <;> rfl
  have lp : ∀ k, k ≤ n → rn 61 5 [some (.int (s32 x)), some (.ref q), some (.ref d), some (.int (m32 p k)), some (.int (nI k))] [] M = some (some (.int (m32 p n)), M) := by
    refine loopB ?_ ?_
    · rw [t61_5]
      simp only [t61_0, t61_1, t61_2, t61_3, t61_7, t61_8, t61_9, t61_10, t61_13, t61_14, t61_15, t61_17, t61_18, t61_19, t61_20, t61_23, t61_25, t61_26, t61_29, t61_30, t61_31, t61_34, t61_35, t61_37, t61_38, t61_41, t61_42, t61_43, t61_44, t61_47, t61_50, t61_51, hq, true_or, i03, and_self, ↓reduceIte, z0, hn, lE (show n ≤ 1000000 by omega) (show n ≤ 1000000 by omega), Nat.le_refl]
    · intro k hk' ih
      have hln := c_leans3 hk n12 hk' hD hb hl
      have wl : w12 (ln k) := fun j hj => by have := ln_b hb hl k hk' j hj; omega
      have hpk : p k = (!bt x k && !decide (ln k &&& x = 0)) := by rw [hp]
      rw [t61_5]
      have hle : ¬ n ≤ k := by omega
      rw [m32_S, hpk] at ih
      cases hxk : bt x k with
      | true =>
        rw [hxk] at ih
        simp only [Bool.not_true, Bool.false_and, Bool.false_eq_true, ↓reduceIte] at ih
        have one0 : ((1 : Int32) = 0) = False := by decide
        simp only [t61_0, t61_1, t61_2, t61_3, t61_7, t61_8, t61_9, t61_10, t61_13, t61_14, t61_15, t61_17, t61_18, t61_19, t61_20, t61_23, t61_25, t61_26, t61_29, t61_30, t61_31, t61_34, t61_35, t61_37, t61_38, t61_41, t61_42, t61_43, t61_44, t61_47, t61_50, t61_51, hq, true_or, i03, and_self, ↓reduceIte, z0, hn, lE (show n ≤ 1000000 by omega) (show k ≤ 1000000 by omega), hle, b3_read (show k < 32 by omega), b3_w hx, hxk, one0, not_false_eq_true, Int32.or_zero, n1]
        exact ih
      | false =>
        rw [hxk] at ih
        by_cases hz : ln k &&& x = 0
        · simp only [hz, decide_true, Bool.not_true, Bool.and_false, Bool.false_eq_true, ↓reduceIte] at ih
          have hz' : s32 (ln k &&& x) = 0 := by rw [hz]; decide
          simp only [t61_0, t61_1, t61_2, t61_3, t61_7, t61_8, t61_9, t61_10, t61_13, t61_14, t61_15, t61_17, t61_18, t61_19, t61_20, t61_23, t61_25, t61_26, t61_29, t61_30, t61_31, t61_34, t61_35, t61_37, t61_38, t61_41, t61_42, t61_43, t61_44, t61_47, t61_50, t61_51, hq, true_or, i03, and_self, ↓reduceIte, z0, hn, lE (show n ≤ 1000000 by omega) (show k ≤ 1000000 by omega), hle, b3_read (show k < 32 by omega), b3_w hx, hxk, Bool.false_eq_true, not_true_eq_false, hln, cbn_i, s32_and, hz', Int32.or_zero, n1]
          exact ih
        · simp only [hz, decide_false, Bool.not_false, Bool.and_self, ↓reduceIte] at ih
          have hz' : (s32 (ln k &&& x) = 0) = False := by rw [s32_0 (w12_and wl)]; exact eq_false hz
          simp only [t61_0, t61_1, t61_2, t61_3, t61_7, t61_8, t61_9, t61_10, t61_13, t61_14, t61_15, t61_17, t61_18, t61_19, t61_20, t61_23, t61_25, t61_26, t61_29, t61_30, t61_31, t61_34, t61_35, t61_37, t61_38, t61_41, t61_42, t61_43, t61_44, t61_47, t61_50, t61_51, hq, true_or, i03, and_self, ↓reduceIte, z0, hn, lE (show n ≤ 1000000 by omega) (show k ≤ 1000000 by omega), hle, b3_read (show k < 32 by omega), b3_w hx, hxk, Bool.false_eq_true, not_true_eq_false, hln, cbn_i, s32_and, hz', n1]
          exact ih
  have h0 := lp 0 (Nat.zero_le _)
  rw [hR] at h0
  show rn 61 0 [some (.int (s32 x)), some (.ref q), some (.ref d), none, none] [] M = _
  simp only [t61_0, t61_1, t61_2, t61_3, t61_7, t61_8, t61_9, t61_10, t61_13, t61_14, t61_15, t61_17, t61_18, t61_19, t61_20, t61_23, t61_25, t61_26, t61_29, t61_30, t61_31, t61_34, t61_35, t61_37, t61_38, t61_41, t61_42, t61_43, t61_44, t61_47, t61_50, t61_51]
  exact h0
