/-! as in whole -/
theorem sI_sI (M : SM) (a : Nat) (f g : Nat → Int32) : sI (sI M a f) a g = sI M a g := by
  unfold sI
  refine Prod.ext ?_ rfl
  funext b
  by_cases h : b = a
  · simp [h]
  · simp [h, mI]
theorem sI_self (M : SM) (a : Nat) : sI M a (mI M a) = M := by
  unfold sI
  refine Prod.ext ?_ rfl
  funext b
  by_cases h : b = a
  · simp [h, mI]
  · simp [h, mI]
theorem sJ_sJ (M : SM) (a : Nat) (f g : Nat → Int64) : sJ (sJ M a f) a g = sJ M a g := by
  unfold sJ
  refine Prod.ext rfl (Prod.ext ?_ rfl)
  funext b
  by_cases h : b = a
  · simp [h]
  · simp [h, mJ]
theorem sJ_self (M : SM) (a : Nat) : sJ M a (mJ M a) = M := by
  unfold sJ
  refine Prod.ext rfl (Prod.ext ?_ rfl)
  funext b
  by_cases h : b = a
  · simp [h, mJ]
  · simp [h, mJ]
/-- the first n places are v -/
def fl {α : Type} (f : Nat → α) (n : Nat) (v : α) : Nat → α := fun j => if j < n then v else f j
theorem fl_0 {α : Type} (f : Nat → α) (v : α) : fl f 0 v = f := by funext j; simp [fl]
theorem fl_up {α : Type} (f : Nat → α) (n : Nat) (v : α) : va_up (fl f n v) n v = fl f (n + 1) v := by
  funext j
  unfold va_up fl
  by_cases h : j = n
  · subst h; simp
  · by_cases h2 : j < n
    · simp [h, h2, show j < n + 1 by omega]
    · simp [h, h2, show ¬ j < n + 1 by omega]
theorem i_lt {a b : Nat} (ha : a < 2147483648) (hb : b < 2147483648) : (nI a < nI b) = (a < b) := propext (nI_ltI ha hb)
theorem i_le {a b : Nat} (ha : a < 2147483648) (hb : b < 2147483648) : (nI a ≤ nI b) = (a ≤ b) := propext (nI_leI ha hb)
theorem i_inT {k n : Nat} (h : k < n) (hn : n < 2147483648) : inR (nI k) n = True := eq_true (i_in h hn)
theorem c_fill {M : SM} {a n : Nat} (hk : mK M a = (1, n)) (hn : n < 100000) (v : Int32) : cl 6 [.ref a, .int v] M = some (none, sI M a (fl (mI M a) n v)) := by
  show rn 6 0 [some (.ref a), some (.int v), none, none] [] M = _
  have lp : ∀ k, k ≤ n → rn 6 5 [some (.ref a), some (.int v), some (.int (nI k)), some (.int (nI n))] [] (sI M a (fl (mI M a) k v)) = some (none, sI M a (fl (mI M a) n v)) := by
    refine loopB ?_ ?_
    · simp only [t6_0, t6_1, t6_2, t6_3, t6_4, t6_5, t6_6, t6_7, t6_10, t6_11, t6_12, t6_13, t6_14, t6_17, t6_20, i_le (show n < 2147483648 by omega) (show n < 2147483648 by omega), Nat.le_refl, ↓reduceIte]
    · intro k hlt ih
      rw [t6_5]
      simp only [t6_0, t6_1, t6_2, t6_3, t6_4, t6_6, t6_7, t6_10, t6_11, t6_12, t6_13, t6_14, t6_17, t6_20, i_le (show n < 2147483648 by omega) (show k < 2147483648 by omega), Nat.not_le.mpr hlt, ↓reduceIte, mK_sI, hk, i_inT hlt (show n < 2147483648 by omega), and_self, nI_c (show k < 2147483648 by omega), mI_sI, sI_sI, fl_up, nI_1]
      exact ih
  have h0 := lp 0 (Nat.zero_le n)
  rw [fl_0, sI_self] at h0
  simp only [t6_0, t6_1, t6_2, t6_3, t6_4, t6_6, t6_7, t6_10, t6_11, t6_12, t6_13, t6_14, t6_17, t6_20, hk, true_or, ↓reduceIte]
  exact h0
/-- a tree: its two rows behind it -/
def TreeAt (M : SM) (t : Nat) : Prop := mK M t = (14, 0) ∧ mP M t 0 = some (t + 1) ∧ mP M t 1 = some (t + 2) ∧ mK M (t + 1) = (1, 16) ∧ mK M (t + 2) = (1, 16)
def tD (M : SM) (t : Nat) : Nat → Int32 := mI M (t + 1)
def tV (M : SM) (t : Nat) : Nat → Int32 := mI M (t + 2)
/-- the tree emptied -/
def tClr (M : SM) (t : Nat) : SM := sI (sI M (t + 1) (fl (tD M t) 16 (-6))) (t + 2) (va_up (fl (tV M t) 16 (-6)) 0 0)
theorem c_tClear {M : SM} {t : Nat} (h : TreeAt M t) : cl 5 [.ref t] M = some (none, tClr M t) := by
  show rn 5 0 [some (.ref t)] [] M = _
  obtain ⟨h1, h2, h3, h4, h5⟩ := h
  have e0 : inR 0 16 = True := eq_true (by decide)
  have e1 : (0 : Int32).toNatClampNeg = 0 := by decide
  simp only [t5_0, t5_1, t5_4, t5_6, t5_9, t5_10, t5_13, t5_15, t5_18, t5_19, t5_22, t5_23, t5_24, t5_25, h1, h2, h3, va_rf_s, ↓reduceIte, c_fill h4 (by decide), cbn_v, mK_sI, mP_sI, c_fill (M := sI M (t + 1) (fl (mI M (t + 1)) 16 (-6))) (a := t + 2) h5 (by decide), h5, e0, e1, and_self, mI_sI, sI_sI]
  simp [tClr, tD, tV]
