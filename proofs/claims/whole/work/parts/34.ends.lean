/-! all rounds come to their end; both sides beginning anew -/
theorem cnt_lt {p q : Nat → Bool} {k : Nat} : ∀ {n : Nat}, k < n → p k = false → q k = true → (∀ i, i < n → p i = true → q i = true) → cnt p n < cnt q n := by
  intro n
  induction n with
  | zero => intro h; omega
  | succ n ih =>
    intro hk hp hq h
    have hn := h n (by omega)
    by_cases e : k = n
    · subst e
      have hle : cnt p k ≤ cnt q k := by
        have : ∀ m, m ≤ k → cnt p m ≤ cnt q m := by
          intro m
          induction m with
          | zero => intro _; exact Nat.le_refl _
          | succ m ihm =>
            intro hm
            have := ihm (by omega)
            have := h m (by omega)
            unfold cnt
            cases hpm : p m
            · simp only [Bool.false_eq_true, ↓reduceIte]; omega
            · rw [this hpm]; simp only [↓reduceIte]; omega
        exact this k (Nat.le_refl _)
      unfold cnt
      rw [hp, hq]
      simp only [Bool.false_eq_true, ↓reduceIte]
      omega
    · have := ih (by omega) hp hq (fun i hi => h i (by omega))
      unfold cnt
      cases hpm : p n
      · simp only [Bool.false_eq_true, ↓reduceIte]; omega
      · rw [hn hpm]; simp only [↓reduceIte]; omega
theorem rd_ne {M : SM} {r h n : Nat} (hn : n ≤ 40) (h0 : ¬ rdM M r h n = 0) : ∃ k, k < n ∧ bt (rdM M r h n) k = true ∧ bt (mJ M r 0) k = false := by
  refine Classical.byContradiction fun hx => h0 ?_
  apply bt_ext
  intro i hi
  rw [bt_0]
  cases hb : bt (rdM M r h n) i with
  | false => rfl
  | true =>
    have hb' := hb
    unfold rdM rdyB at hb'
    rw [bt_mk _ _ _ (by omega), bt_or] at hb'
    simp only [Bool.and_eq_true, decide_eq_true_eq, Bool.not_eq_true', Bool.or_eq_false_iff] at hb'
    exact absurd ⟨i, hb'.1, hb, hb'.2.1.2⟩ hx
theorem mkR_rp (M : SM) (r h n : Nat) : mJ (mkR M r h n) r 0 = mJ M r 0 ||| rdM M r h n := by
  unfold mkR rrF
  simp only [mJ_sI, mJ_sJ, ↓reduceIte, va_up_self]
theorem it_cnt {M : SM} {r h n : Nat} (hn : n ≤ 40) : ∀ j, (∀ i, i < j → ¬ rdM (itR M r h n i) r h n = 0) → j ≤ cnt (bt (mJ (itR M r h n j) r 0)) n := by
  intro j
  induction j with
  | zero => intro _; exact Nat.zero_le _
  | succ j ih =>
    intro hx
    have := ih (fun i hi => hx i (by omega))
    obtain ⟨k, hk, h1, h2⟩ := rd_ne hn (hx j (by omega))
    have e : mJ (itR M r h n (j + 1)) r 0 = mJ (itR M r h n j) r 0 ||| rdM (itR M r h n j) r h n := mkR_rp _ _ _ _
    have := cnt_lt (p := bt (mJ (itR M r h n j) r 0)) (q := bt (mJ (itR M r h n (j + 1)) r 0)) hk h2 (by rw [e, bt_or, h1, Bool.or_true]) (fun i _ hp => by rw [e, bt_or, hp, Bool.true_or])
    omega
theorem it_end {M : SM} {r h n j : Nat} (hn : n ≤ 40) (h1 : ∀ i, i < j → ¬ rdM (itR M r h n i) r h n = 0) (h2 : j = 40 ∨ rdM (itR M r h n j) r h n = 0) : rdM (itR M r h n j) r h n = 0 := by
  rcases h2 with rfl | h2
  · refine Classical.byContradiction fun hx => ?_
    have := it_cnt (M := M) (r := r) (h := h) hn 41 (fun i hi => by
      by_cases q : i < 40
      · exact h1 i q
      · obtain rfl : i = 40 := by omega
        exact hx)
    have := cnt_le (bt (mJ (itR M r h n 41) r 0)) n
    omega
  · exact h2
/-- both replay: the same number of rounds, the same states behind -/
theorem replays_both {C : SM} {r h n R : Nat} {w : Nat → Int32} (hd : h + 6 ≤ r) (hRp : RepAt C r) (hLg : LogAt C h) (hL : LR C h w n) (hR : RR C r w n R) (hb : R + 41 < 2147483648) :
    ∃ j, j ≤ 40 ∧ cl 58 [.ref r, .ref h] C = some (some (.int (nI j)), itR C r h n j) ∧
      ∀ (M : SM) (m : Nat), ModAt M m → mI M (m + 1) = w → ∃ W, cl 145 [.ref m] M = some (some (.int (nI j)), sI M (m + 1) W) ∧ LR (itR C r h n j) h W n ∧ RR (itR C r h n j) r W n (R + j) := by
  obtain ⟨j, h40, h1, h2, hc⟩ := c_makeRounds hRp hLg hL.1 hL.2.1 (Or.inl hd) hL.2.2.2.1
  refine ⟨j, h40, hc, fun M m hm hw => ?_⟩
  obtain ⟨W, hW, a, b⟩ := c_replays hd (C := C) j (M := M) (i := 0) (j := j) (R := R) (by omega) hm (by rw [hw]; exact hL) (by rw [hw]; exact hR) (by omega) h1 (it_end hL.2.1 h1 h2)
  refine ⟨W, ?_, a, b⟩
  show rn 145 0 [some (.ref m), none] [] M = _
  simp only [t145_0, t145_1, t145_3, t145_6, t145_7, t145_8, t145_11, t145_12, t145_15, t145_16, t145_19, t145_22, t145_23]
  exact hW
