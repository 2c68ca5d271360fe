/-! as in whole -/
theorem cnt_lt {p q : Nat → Bool} {k : Nat} : ∀ {n : Nat}, k < n → p k = false → q k = true → (∀ i, i < n → p i = true → q i = true) → cnt p n < cnt q n := by
  intro n
  induction n with
  | zero => intro h; omega
  | succ n ih =>
    intro hk hp hq h
    have hn := h n (by omega)
    by_cases e : k = n
    · subst e
      have hle : cnt p k ≤ cnt q k := by
        have : ∀ m, m ≤ k → cnt p m ≤ cnt q m := by
          intro m
          induction m with
          | zero => intro _; exact Nat.le_refl _
          | succ m ihm =>
            intro hm
            have := ihm (by omega)
            have := h m (by omega)
            unfold cnt
            cases hpm : p m
            · simp only [Bool.false_eq_true, ↓reduceIte]; omega
            · rw [this hpm]; simp only [↓reduceIte]; omega
        exact this k (Nat.le_refl _)
      unfold cnt
      rw [hp, hq]
      simp only [Bool.false_eq_true, ↓reduceIte]
      omega
    · have := ih (by omega) hp hq (fun i hi => h i (by omega))
      unfold cnt
      cases hpm : p n
      · simp only [Bool.false_eq_true, ↓reduceIte]; omega
      · rw [hn hpm]; simp only [↓reduceIte]; omega
theorem rd_ne {M : SM} {r h n : Nat} (hn : n ≤ 40) (h0 : ¬ rdM M r h n = 0) : ∃ k, k < n ∧ bt (rdM M r h n) k = true ∧ bt (mJ M r 0) k = false := by
  refine Classical.byContradiction fun hx => h0 ?_
  apply bt_ext
  intro i hi
  rw [bt_0]
  cases hb : bt (rdM M r h n) i with
  | false => rfl
  | true =>
    have hb' := hb
    unfold rdM rdyB at hb'
    rw [bt_mk _ _ _ (by omega), bt_or] at hb'
    simp only [Bool.and_eq_true, decide_eq_true_eq, Bool.not_eq_true', Bool.or_eq_false_iff] at hb'
    exact absurd ⟨i, hb'.1, hb, hb'.2.1.2⟩ hx
theorem mkR_rp (M : SM) (r h n : Nat) : mJ (mkR M r h n) r 0 = mJ M r 0 ||| rdM M r h n := by
  unfold mkR rrF
  simp only [mJ_sI, mJ_sJ, ↓reduceIte, va_up_self]
theorem it_cnt {M : SM} {r h n : Nat} (hn : n ≤ 40) : ∀ j, (∀ i, i < j → ¬ rdM (itR M r h n i) r h n = 0) → j ≤ cnt (bt (mJ (itR M r h n j) r 0)) n := by
  intro j
  induction j with
  | zero => intro _; exact Nat.zero_le _
  | succ j ih =>
    intro hx
    have := ih (fun i hi => hx i (by omega))
    obtain ⟨k, hk, h1, h2⟩ := rd_ne hn (hx j (by omega))
    have e : mJ (itR M r h n (j + 1)) r 0 = mJ (itR M r h n j) r 0 ||| rdM (itR M r h n j) r h n := mkR_rp _ _ _ _
    have := cnt_lt (p := bt (mJ (itR M r h n j) r 0)) (q := bt (mJ (itR M r h n (j + 1)) r 0)) hk h2 (by rw [e, bt_or, h1, Bool.or_true]) (fun i _ hp => by rw [e, bt_or, hp, Bool.true_or])
    omega
theorem it_end {M : SM} {r h n j : Nat} (hn : n ≤ 40) (h1 : ∀ i, i < j → ¬ rdM (itR M r h n i) r h n = 0) (h2 : j = 40 ∨ rdM (itR M r h n j) r h n = 0) : rdM (itR M r h n j) r h n = 0 := by
  rcases h2 with rfl | h2
  · refine Classical.byContradiction fun hx => ?_
    have := it_cnt (M := M) (r := r) (h := h) hn 41 (fun i hi => by
      by_cases q : i < 40
      · exact h1 i q
      · obtain rfl : i = 40 := by omega
        exact hx)
    have := cnt_le (bt (mJ (itR M r h n 41) r 0)) n
    omega
  · exact h2
