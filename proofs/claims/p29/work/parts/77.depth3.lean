/-! the law: how deep an entry lies -/
theorem c_beyond3 {M : SM} {d n : Nat} {nd : Nat → Int64} {x : Int64} (hk : mK M d = (1, 12)) (n12 : n ≤ 12) (hx : ∀ k, bt x k = true → k < n) (hD : DeR (mI M d) nd n) (hb : ∀ e, e < n → ∀ k, bt (nd e) k = true → k < e) :
    ∃ y, w12 y ∧ (∀ i, bt y i = true ↔ ∃ k, bt x k = true ∧ bt (nd k) i = true ∧ bt x i = true) ∧ cl 76 [.int (s32 x), .ref d] M = some (some (.int (s32 y)), M) := by
  have wx : w12 x := fun k h => by have := hx k h; omega
  have lp : ∀ m j, m + j = 12 → ∀ y, w12 y → (∀ i, bt y i = true ↔ ∃ k, k < j ∧ bt x k = true ∧ bt (nd k) i = true ∧ bt x i = true) →
      ∃ z, w12 z ∧ (∀ i, bt z i = true ↔ ∃ k, bt x k = true ∧ bt (nd k) i = true ∧ bt x i = true) ∧ rn 76 4 [some (.int (s32 x)), some (.ref d), some (.int (s32 y)), some (.int (nI j))] [] M = some (some (.int (s32 z)), M) := by
    intro m
    induction m with
    | zero =>
      intro j hj y hy hP
      obtain rfl : j = 12 := by omega
      refine ⟨y, hy, fun i => ?_, ?_⟩
      · rw [hP]
        exact ⟨fun ⟨k, _, h⟩ => ⟨k, h⟩, fun ⟨k, h⟩ => ⟨k, wx k h.1, h⟩⟩
      · rw [t76_4]
        simp only [t76_0, t76_1, t76_2, t76_3, t76_5, t76_7, t76_10, t76_11, t76_12, t76_13, t76_14, t76_15, t76_16, t76_17, t76_20, t76_21, t76_22, t76_23, t76_24, t76_25, t76_28, t76_29, t76_30, t76_31, t76_34, t76_37, t76_38, le12 (show 12 ≤ 1000000 by omega), Nat.le_refl, ↓reduceIte]
    | succ m ih =>
      intro j hj y hy hP
      have hle : ¬ 12 ≤ j := by omega
      cases hq : bt x j with
      | true =>
        have hjn := hx j hq
        have wj : w12 (nd j) := fun k hk => by have := hb j hjn k hk; omega
        obtain ⟨z, q1, q2, q3⟩ := ih (j + 1) (by omega) (y ||| (nd j &&& x)) (w12_or hy (w12_and wj)) (by
          intro i
          rw [bt_or, Bool.or_eq_true, bt_and, Bool.and_eq_true, hP]
          constructor
          · rintro (⟨k, k1, k2⟩ | ⟨h1, h2⟩)
            · exact ⟨k, by omega, k2⟩
            · exact ⟨j, by omega, hq, h1, h2⟩
          · rintro ⟨k, k1, k2, k3, k4⟩
            by_cases q : k = j
            · subst q; exact Or.inr ⟨k3, k4⟩
            · exact Or.inl ⟨k, by omega, k2, k3, k4⟩)
        refine ⟨z, q1, q2, ?_⟩
        rw [t76_4]
        simp only [t76_0, t76_1, t76_2, t76_3, t76_5, t76_7, t76_10, t76_11, t76_12, t76_13, t76_14, t76_15, t76_16, t76_17, t76_20, t76_21, t76_22, t76_23, t76_24, t76_25, t76_28, t76_29, t76_30, t76_31, t76_34, t76_37, t76_38, le12 (show j ≤ 1000000 by omega), hle, b3_read (show j < 32 by omega), b3_w wx, hq, ↓reduceIte, not_true_eq_false, hk, true_or, iT (show j < 12 by omega) (by decide), and_self, cN (show j ≤ 1000000 by omega), hD j hjn, s32_and, s32_or, n1]
        exact q3
      | false =>
        obtain ⟨z, q1, q2, q3⟩ := ih (j + 1) (by omega) y hy (by
          intro i
          rw [hP]
          constructor
          · rintro ⟨k, k1, k2⟩; exact ⟨k, by omega, k2⟩
          · rintro ⟨k, k1, k2, k3⟩
            by_cases q : k = j
            · subst q; rw [hq] at k2; cases k2
            · exact ⟨k, by omega, k2, k3⟩)
        refine ⟨z, q1, q2, ?_⟩
        have z01 : ((0 : Int32) = 1) = False := by decide
        rw [t76_4]
        simp only [t76_0, t76_1, t76_2, t76_3, t76_5, t76_7, t76_10, t76_11, t76_12, t76_13, t76_14, t76_15, t76_16, t76_17, t76_20, t76_21, t76_22, t76_23, t76_24, t76_25, t76_28, t76_29, t76_30, t76_31, t76_34, t76_37, t76_38, le12 (show j ≤ 1000000 by omega), hle, b3_read (show j < 32 by omega), b3_w wx, hq, Bool.false_eq_true, ↓reduceIte, z01, not_false_eq_true, Int32.or_zero, n1]
        exact q3
  obtain ⟨z, q1, q2, q3⟩ := lp 12 0 (by omega) 0 w12_0 (fun i => by rw [bt_0]; exact ⟨fun h => (by cases h), fun ⟨k, h, _⟩ => (by omega)⟩)
  refine ⟨z, q1, q2, ?_⟩
  have s0 : s32 0 = 0 := by decide
  rw [s0] at q3
  show rn 76 0 [some (.int (s32 x)), some (.ref d), none, none] [] M = _
  simp only [t76_0, t76_1, t76_2, t76_3, t76_5, t76_7, t76_10, t76_11, t76_12, t76_13, t76_14, t76_15, t76_16, t76_17, t76_20, t76_21, t76_22, t76_23, t76_24, t76_25, t76_28, t76_29, t76_30, t76_31, t76_34, t76_37, t76_38]
  exact q3
/-- a longest way down -/
theorem way {nd : Nat → Int64} {n : Nat} (hb : ∀ e, e < n → ∀ k, bt (nd e) k = true → k < e) : ∀ d e, e < n → depT nd n e = d → ∃ ch : Nat → Nat, ch 0 = e ∧ (∀ j, j < d → bt (nd (ch j)) (ch (j + 1)) = true) ∧ ∀ j, j ≤ d → ch j < n ∧ depT nd n (ch j) = d - j := by
  intro d
  induction d with
  | zero =>
    intro e he hd
    refine ⟨fun _ => e, rfl, fun j hj => by omega, fun j hj => ⟨he, ?_⟩⟩
    show depT nd n e = 0 - j
    omega
  | succ d ih =>
    intro e he hd
    have h1 := depT_at nd n e he
    rcases dpI_ex (x := nd e) (g := depT nd n) e with h | ⟨j, j1, j2, j3⟩
    · omega
    · obtain ⟨ch, c1, c2, c3⟩ := ih j (by omega) (by omega)
      refine ⟨fun i => if i = 0 then e else ch (i - 1), if_pos rfl, fun i hi => ?_, fun i hi => ?_⟩
      · by_cases q : i = 0
        · subst q
          show bt (nd (if (0 : Nat) = 0 then e else _)) (if (0 + 1 : Nat) = 0 then e else ch (0 + 1 - 1)) = true
          rw [if_pos rfl, if_neg (by omega)]
          show bt (nd e) (ch 0) = true
          rw [c1]; exact j2
        · show bt (nd (if i = 0 then e else ch (i - 1))) (if i + 1 = 0 then e else ch (i + 1 - 1)) = true
          rw [if_neg q, if_neg (by omega)]
          have := c2 (i - 1) (by omega)
          rwa [show i - 1 + 1 = i + 1 - 1 by omega] at this
      · show (if i = 0 then e else ch (i - 1)) < n ∧ depT nd n (if i = 0 then e else ch (i - 1)) = d + 1 - i
        by_cases q : i = 0
        · rw [if_pos q]; exact ⟨he, by omega⟩
        · rw [if_neg q]
          obtain ⟨u, v⟩ := c3 (i - 1) (by omega)
          exact ⟨u, by omega⟩
theorem c_depth3 {M : SM} {d n e : Nat} {nd ln : Nat → Int64} (hk : mK M d = (1, 12)) (n12 : n ≤ 12) (he : e < n) (hD : DeR (mI M d) nd n) (hb : ∀ e, e < n → ∀ k, bt (nd e) k = true → k < e) (hl : ∀ e, e < n → ln e = orL (nd e) ln e) :
    cl 75 [.int (nI e), .ref d] M = some (some (.int (nI (depT nd n e))), M) := by
  obtain ⟨ch, c1, c2, c3⟩ := way hb (depT nd n e) e he rfl
  obtain ⟨D, hDD⟩ : ∃ D, D = depT nd n e := ⟨_, rfl⟩
  rw [← hDD] at c2 c3 ⊢
  have hDe : D ≤ e := by rw [hDD]; exact depT_le nd n e he
  have down : ∀ k i, k < n → bt (nd k) i = true → depT nd n i + 1 ≤ depT nd n k := fun k i hkn h => by
    rw [depT_at nd n k hkn]
    exact dpI_ge k i (hb k hkn i h) h
  have hcl := ln_cl hb hl e he
  have hlb := ln_b hb hl e he
  have lp : ∀ m i, m + i = D + 1 → ∀ x, (∀ y, bt x y = true → y < n ∧ depT nd n y + i ≤ D) → (∀ j, i ≤ j → j ≤ D → bt x (ch j) = true) →
      rn 75 12 [some (.int (nI e)), some (.ref d), some (.int (nI i)), some (.int (s32 x))] [] M = some (some (.int (nI D)), M) := by
    intro m
    induction m with
    | zero =>
      intro i hi x h1 h2
      have hx0 : x = 0 := bt_ext fun y _ => by
        rw [bt_0]
        cases hq : bt x y with
        | false => rfl
        | true => have := (h1 y hq).2; omega
      have s0 : s32 0 = 0 := by decide
      have e1 : nI i - 1 = nI D := by
        obtain rfl : i = D + 1 := by omega
        rw [nI_pred]
      rw [hx0, t75_12]
      simp only [t75_0, t75_1, t75_2, t75_3, t75_4, t75_7, t75_8, t75_9, t75_10, t75_11, t75_13, t75_16, t75_19, t75_20, t75_21, t75_24, t75_25, t75_28, t75_29, t75_30, t75_31, s0, ↓reduceIte, e1]
    | succ m ih =>
      intro i hi x h1 h2
      have wx : w12 x := fun k h => by have := (h1 k h).1; omega
      have hne : ¬ x = 0 := fun h => by
        have := h2 i (Nat.le_refl _) (by omega)
        rw [h, bt_0] at this; cases this
      have hne' : (s32 x = 0) = False := by rw [s32_0 wx]; exact eq_false hne
      obtain ⟨y, y1, y2, y3⟩ := c_beyond3 hk n12 (fun k h => (h1 k h).1) hD hb
      have ih := ih (i + 1) (by omega) y (fun z hz => by
        obtain ⟨k, k1, k2, k3⟩ := (y2 z).mp hz
        have a := h1 k k1
        have b := down k z a.1 k2
        exact ⟨(h1 z k3).1, by omega⟩) (fun j j1 j2 => by
        refine (y2 _).mpr ⟨ch (j - 1), h2 (j - 1) (by omega) (by omega), ?_, h2 j (by omega) j2⟩
        have := c2 (j - 1) (by omega)
        rwa [show j - 1 + 1 = j by omega] at this)
      rw [t75_12]
      simp only [t75_0, t75_1, t75_2, t75_3, t75_4, t75_7, t75_8, t75_9, t75_10, t75_11, t75_13, t75_16, t75_19, t75_20, t75_21, t75_24, t75_25, t75_28, t75_29, t75_30, t75_31, hne', ↓reduceIte, y3, cbn_i, n1]
      exact ih
  have hln := c_leans3 hk n12 he hD hb hl
  have h0 := lp (D + 1) 0 (by omega) (ln e ||| bE e) (fun y hy => by
    rw [bt_or, Bool.or_eq_true, bt_bE (by omega), decide_eq_true_eq] at hy
    rcases hy with h | h
    · have := hlb y h
      refine ⟨by omega, ?_⟩
      have up : ∀ k, bt (ln e) k = true → depT nd n k ≤ D := by
        intro k
        have key : ∀ m k, e - k = m → bt (ln e) k = true → depT nd n k ≤ D := by
          intro m
          induction m using Nat.strongRecOn with
          | _ m ih =>
            intro k hm hk2
            have hke := hlb k hk2
            rcases (hcl k).mp hk2 with h | ⟨j, j1, j2, j3⟩
            · have := down e k he h; omega
            · have a := down j k (by omega) j3
              have b := hb j (by omega) k j3
              have := ih (e - j) (by omega) j rfl j2
              omega
        exact key _ k rfl
      have := up y h
      omega
    · subst h; exact ⟨he, by omega⟩) (fun j _ hj => by
    rw [bt_or, Bool.or_eq_true, bt_bE (by omega), decide_eq_true_eq]
    have key : ∀ j, j ≤ D → bt (ln e) (ch j) = true ∨ ch j = e := by
      intro j
      induction j with
      | zero => intro _; exact Or.inr c1
      | succ j ih =>
        intro hj
        have h := c2 j (by omega)
        rcases ih (by omega) with q | q
        · exact Or.inl ((hcl _).mpr (Or.inr ⟨ch j, hlb _ q, q, h⟩))
        · rw [q] at h
          exact Or.inl ((hcl _).mpr (Or.inl h))
    exact key j hj)
  have z : nI 0 = 0 := rfl
  rw [z] at h0
  show rn 75 0 [some (.int (nI e)), some (.ref d), none, none] [] M = _
  simp only [t75_0, t75_1, t75_2, t75_3, t75_4, t75_7, t75_8, t75_9, t75_10, t75_11, t75_13, t75_16, t75_19, t75_20, t75_21, t75_24, t75_25, t75_28, t75_29, t75_30, t75_31, hln, cbn_i, e3_s (show e < 12 by omega), s32_or]
  exact h0
