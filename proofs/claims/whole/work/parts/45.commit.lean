/-! a change is recorded on both sides -/
theorem c_keep {M : SM} {H nx k : Nat} (hK : mK M H = (15, 0)) (h1 : mI M H 1 = nI nx) (h2 : mI M H 2 = nI k) (hx : nx < 7) (hk : k ≤ 6) : cl 29 [.ref H] M = some (none, sI M H (va_up (va_up (mI M H) 1 (nI (if nx = 6 then 0 else nx + 1))) 2 (nI (rcT k)))) := by
  show rn 29 0 [some (.ref H)] [] M = _
  have e2 : ∀ v, va_up (mI M H) 1 v 2 = nI k := fun v => (va_up_ne _ _ (by decide)).trans h2
  have l6 : ((6 : Int32) < nI (k + 1)) = (6 < k + 1) := i_lt (a := 6) (by decide) (by omega)
  have z0 : nI 0 = 0 := rfl
  have z6 : nI 6 = 6 := rfl
  have e6 : (nI nx = 6) = (nx = 6) := nI_inj (a := nx) (b := 6) (by omega) (by decide)
  by_cases q : nx = 6 <;> by_cases p : k = 6
  · simp only [t29_0, t29_1, t29_2, t29_5, t29_7, t29_10, t29_11, t29_14, t29_15, t29_18, t29_19, t29_20, t29_23, t29_24, t29_25, t29_28, t29_29, t29_30, t29_32, t29_35, t29_38, hK, h1, e6, q, p, ↓reduceIte, not_true_eq_false, mK_sI, mI_sI, e2, n1, l6, c_min, cbn_i, sI_sI, rcT, z0, show 6 < 6 + 1 by decide] <;> rfl
  · have : ¬ 6 < k + 1 := by omega
    simp only [t29_0, t29_1, t29_2, t29_5, t29_7, t29_10, t29_11, t29_14, t29_15, t29_18, t29_19, t29_20, t29_23, t29_24, t29_25, t29_28, t29_29, t29_30, t29_32, t29_35, t29_38, hK, h1, e6, q, p, ↓reduceIte, not_true_eq_false, mK_sI, mI_sI, e2, n1, l6, c_min, cbn_i, sI_sI, rcT, z0, z6, this]
  · simp only [t29_0, t29_1, t29_2, t29_5, t29_7, t29_10, t29_11, t29_14, t29_15, t29_18, t29_19, t29_20, t29_23, t29_24, t29_25, t29_28, t29_29, t29_30, t29_32, t29_35, t29_38, hK, h1, e6, q, p, ↓reduceIte, not_false_eq_true, mK_sI, mI_sI, e2, n1, l6, c_min, cbn_i, sI_sI, rcT, z0, show 6 < 6 + 1 by decide] <;> rfl
  · have : ¬ 6 < k + 1 := by omega
    simp only [t29_0, t29_1, t29_2, t29_5, t29_7, t29_10, t29_11, t29_14, t29_15, t29_18, t29_19, t29_20, t29_23, t29_24, t29_25, t29_28, t29_29, t29_30, t29_32, t29_35, t29_38, hK, h1, e6, q, p, ↓reduceIte, not_false_eq_true, mK_sI, mI_sI, e2, n1, l6, c_min, cbn_i, sI_sI, rcT, z0, z6, this]
theorem commit {M : SM} {S sb L B : Nat} {xs : Nat → Int32} (h : RelX M S sb L xs B) (hp : ∃ nx n R, nx < 7 ∧ mI M (S + 14) 1 = nI nx ∧ R ≤ B ∧ SR M (S + 16 + 13 * nx) (mI M (S + 149)) n R) :
    ∃ M3, cl 29 [.ref (S + 14)] M = some (none, M3) ∧ Fr M M3 (S + 14) (S + 15) ∧ ∃ M4, cl 106 [.ref (S + 148)] M3 = some (none, M4) ∧ RelX M4 S sb L xs B ∧ M4.2.2 = M.2.2 ∧ ∀ b, (b < S + 14 ∨ (S + 15 ≤ b ∧ b < S + 148) ∨ (S + 149 ≤ b ∧ b < S + 151) ∨ S + 152 ≤ b) → mI M4 b = mI M b ∧ mJ M4 b = mJ M b := by
  obtain ⟨hS, ⟨nx, k, ⟨h1, h2, h3, h4, h5⟩, h6⟩, hs, ⟨l, p1, p2, p3, p4⟩, hx⟩ := h
  obtain ⟨nx', n0, R0, y1, y2, y3, y4⟩ := hp
  obtain rfl : nx' = nx := by
    rw [h3, nI_inj (by omega) (by omega)] at y2
    exact y2.symm
  obtain ⟨a, b, ⟨c1, c2, c3, c4⟩, d, f, g, i, j, kk, ⟨hsb, l'⟩⟩ := id hS
  have hkeep := c_keep c1 h3 h4 h1 h2
  obtain ⟨M3, hM3⟩ : ∃ M3, M3 = sI M (S + 14) (va_up (va_up (mI M (S + 14)) 1 (nI (if nx' = 6 then 0 else nx' + 1))) 2 (nI (rcT k))) := ⟨_, rfl⟩
  rw [← hM3] at hkeep
  have hF3 : Fr M M3 (S + 14) (S + 15) := by rw [hM3]; exact Fr.sI _ (by omega) (by omega)
  have hrec := c_record (M := M3) (kk.st hF3.1) (t := k) (by rw [(hF3.2 (S + 148) (by omega)).1]; exact h6) h2
  have e151 := (hF3.2 (S + 148 + 3) (by omega)).1
  have e149 := (hF3.2 (S + 148 + 1) (by omega)).1
  have e148 := (hF3.2 (S + 148) (by omega)).1
  refine ⟨M3, hkeep, hF3, _, hrec, ?_⟩
  have hst : (rcM M3 (S + 148) k).2.2 = M.2.2 := hF3.1
  have r14 : mI (rcM M3 (S + 148) k) (S + 14) = va_up (va_up (mI M (S + 14)) 1 (nI (if nx' = 6 then 0 else nx' + 1))) 2 (nI (rcT k)) := by
    unfold rcM
    rw [mI_sI, if_neg (by omega), mI_sI, if_neg (by omega), hM3, mI_sI, if_pos rfl]
  have r148 : mI (rcM M3 (S + 148) k) (S + 148) = va_up (mI M (S + 148)) 3 (nI (rcT k)) := by
    unfold rcM
    rw [mI_sI, if_pos rfl, e148]
  have r151 : mI (rcM M3 (S + 148) k) (S + 151) = rcH (mI M (S + 151)) (mI M (S + 149)) k := by
    unfold rcM
    rw [mI_sI, if_neg (by omega), show S + 151 = S + 148 + 3 from rfl, mI_sI, if_pos rfl, e151, e149]
  have rest : ∀ b, (b < S + 14 ∨ (S + 15 ≤ b ∧ b < S + 148) ∨ (S + 149 ≤ b ∧ b < S + 151) ∨ S + 152 ≤ b) → mI (rcM M3 (S + 148) k) b = mI M b ∧ mJ (rcM M3 (S + 148) k) b = mJ M b := by
    intro b hb
    refine ⟨?_, ?_⟩
    · unfold rcM
      rw [mI_sI, if_neg (by omega), mI_sI, if_neg (by omega)]
      exact (hF3.2 b (by omega)).1
    · show mJ M3 b = mJ M b
      rw [hM3]; rfl
  refine ⟨⟨hS.st hst, ⟨if nx' = 6 then 0 else nx' + 1, rcT k, ⟨by split <;> omega, by unfold rcT; split <;> omega, ?_, ?_, ?_⟩, ?_⟩, ?_, ⟨l, p1, ?_, ?_, ?_⟩, ?_⟩, hst, rest⟩
  · rw [r14, va_up_ne _ _ (by decide), va_up_self]
  · rw [r14, va_up_self]
  · intro x hx
    rw [r151]
    have go : ∀ (p n R : Nat) (w : Nat → Int32), p < 7 → R ≤ B → SR M (S + 16 + 13 * p) w n R → p = ((if nx' = 6 then 0 else nx' + 1) + 7 - rcT k + x) % 7 → (∀ j, j < 370 → rcH (mI M (S + 151)) (mI M (S + 149)) k (370 * x + j) = w j) → ∃ n R, R ≤ B ∧ SR (rcM M3 (S + 148) k) (S + 16 + 13 * (((if nx' = 6 then 0 else nx' + 1) + 7 - rcT k + x) % 7)) (fun j => rcH (mI M (S + 151)) (mI M (S + 149)) k (370 * x + j)) n R := by
      intro p n R w hp hR hw he hj
      rw [← he]
      exact ⟨n, R, hR, SR_w (SR_eq hw (fun b b1 b2 => rest b (by omega))) hj⟩
    unfold rcT at hx go ⊢
    by_cases q : k = 6
    · subst q
      simp only [↓reduceIte] at hx go ⊢
      by_cases x5 : x = 5
      · subst x5
        refine go nx' n0 R0 _ h1 y3 y4 (by split <;> omega) (fun j hj => ?_)
        unfold rcH blk
        rw [if_pos rfl, if_pos (by omega), show 0 + (370 * 5 + j - 1850) = j by omega]
      · obtain ⟨n, R, u, v⟩ := h5 (x + 1) (by omega)
        refine go _ n R _ (Nat.mod_lt _ (by decide)) u v (by split <;> omega) (fun j hj => ?_)
        unfold rcH blk
        rw [if_pos rfl, if_neg (by omega)]
        show (if 370 * x + j < 1850 then mI M (S + 151) (370 * x + j + 370) else mI M (S + 151) (370 * x + j)) = _
        rw [if_pos (by omega), show 370 * x + j + 370 = 370 * (x + 1) + j by omega]
    · simp only [q, ↓reduceIte] at hx go ⊢
      by_cases xk : x = k
      · subst xk
        refine go nx' n0 R0 _ h1 y3 y4 (by split <;> omega) (fun j hj => ?_)
        unfold rcH blk
        rw [if_neg q, if_pos (by omega)]
        congr 1
        omega
      · obtain ⟨n, R, u, v⟩ := h5 x (by omega)
        refine go _ n R _ (Nat.mod_lt _ (by decide)) u v (by split <;> omega) (fun j hj => ?_)
        unfold rcH blk
        rw [if_neg q, if_neg (by omega)]
  · rw [r148, va_up_self]
  · intro x hx
    obtain ⟨u, v⟩ := hs x hx
    rw [(rest (S + 120 + 14 * x) (by omega)).1, (rest (S + 153) (by omega)).1, (rest (S + 152) (by omega)).1]
    refine ⟨u, ?_⟩
    rcases v with v | ⟨v, n, R, y, z⟩
    · exact Or.inl v
    · exact Or.inr ⟨v, n, R, y, SR_eq z (fun b b1 b2 => rest b (by omega))⟩
  · rw [(rest (S + 109) (by omega)).1]; exact p2
  · rw [r148, va_up_ne _ _ (by decide)]; exact p3
  · rw [(rest (S + 110) (by omega)).1, (rest (S + 154) (by omega)).1]; exact p4
  · rw [(rest sb (by omega)).1]; exact hx
theorem c_rec0 {M : SM} {S : Nat} {a : Int32} (ha : a < 0) : cl 28 [.ref S, .int a] M = some (some (.int a), M) := by
  show rn 28 0 [some (.ref S), some (.int a)] [] M = _
  simp only [t28_0, t28_1, t28_4, t28_5, t28_8, t28_11, t28_12, ha, ↓reduceIte]
theorem c_rec1 {M M3 : SM} {S : Nat} {a : Int32} (ha : ¬ a < 0) (hK : mK M S = (10, 0)) (hP : mP M S 1 = some (S + 14)) (hH : mK M (S + 14) = (15, 0)) (hk : cl 29 [.ref (S + 14)] M = some (none, M3)) : cl 28 [.ref S, .int a] M = some (some (.int a), M3) := by
  show rn 28 0 [some (.ref S), some (.int a)] [] M = _
  simp only [t28_0, t28_1, t28_4, t28_5, t28_8, t28_11, t28_12, ha, ↓reduceIte, hK, hP, va_rf_s, hH, hk, cbn_v]
