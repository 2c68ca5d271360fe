/-! make, write, move, drop: both sides -/
/-- below the class's objects nothing changes -/
def Low (M M' : SM) (S : Nat) : Prop := M'.2.2 = M.2.2 ∧ ∀ b, b < S → mI M' b = mI M b
theorem Low.refl (M : SM) (S : Nat) : Low M M S := ⟨rfl, fun _ _ => rfl⟩
theorem Low.trans {M M1 M2 : SM} {S : Nat} (h : Low M M1 S) (g : Low M1 M2 S) : Low M M2 S := ⟨g.1.trans h.1, fun b hb => (g.2 b hb).trans (h.2 b hb)⟩
theorem Low.of {M M' : SM} {S lo hi : Nat} (h : Fr M M' lo hi) (hl : S ≤ lo) : Low M M' S := ⟨h.1, fun b hb => (h.2 b (by omega)).1⟩
def PairI (q1 q2 : Nat) (as : List Value) (M : SM) (S sb L : Nat) (xs : Nat → Int32) (B : Nat) : Prop := ∃ (a : Int32) (M1 M2 : SM), Low M M1 S ∧ cl q1 (.ref S :: as) M = some (some (.int a), M1) ∧ cl q2 (.ref (S + 148) :: as) M1 = some (some (.int a), M2) ∧ Rel M2 S sb L xs B
def PairJ (q1 q2 : Nat) (as : List Value) (M : SM) (S sb L : Nat) (xs : Nat → Int32) (B : Nat) : Prop := ∃ (a : Int64) (M1 M2 : SM), Low M M1 S ∧ cl q1 (.ref S :: as) M = some (some (.long a), M1) ∧ cl q2 (.ref (S + 148) :: as) M1 = some (some (.long a), M2) ∧ Rel M2 S sb L xs B
theorem Rel.up {M : SM} {S sb L B B' : Nat} {xs : Nat → Int32} (h : Rel M S sb L xs B) (hB : B ≤ B') : Rel M S sb L xs B' := by
  obtain ⟨hX, n, R, hR, hN⟩ := h
  exact ⟨hX.up hB, n, R, by omega, hN⟩
theorem Fr_lgApp (M : SM) (h n : Nat) (kd f a : Int32) : Fr M (lgApp M h n kd f a) h (h + 6) := ⟨lgApp_st _ _ _ _ _ _, fun _ hb => ⟨lgApp_I hb, lgApp_J hb⟩⟩
/-- the next place of the history holds the state of now -/
def Prp (M : SM) (S B : Nat) : Prop := ∃ nx n R, nx < 7 ∧ mI M (S + 14) 1 = nI nx ∧ R ≤ B ∧ SR M (S + 16 + 13 * nx) (mI M (S + 149)) n R
theorem Prp.fr {M M' : SM} {S B : Nat} (h : Prp M S B) (hF : Fr M M' S (S + 14)) : Prp M' S B := by
  obtain ⟨nx, n, R, a, b, c, d⟩ := h
  refine ⟨nx, n, R, a, ?_, c, ?_⟩
  · rw [(hF.2 (S + 14) (by omega)).1]; exact b
  · rw [(hF.2 (S + 149) (by omega)).1]; exact SR_fr d hF (by omega)
theorem r_f (f : Int32) : ((f < 0 ∨ 16 ≤ f) ∨ f = 0) = (f < 1 ∨ 15 < f) := by
  have h16 : (16 : Int32).toInt = 16 := by decide
  have h15 : (15 : Int32).toInt = 15 := by decide
  have h0 : (0 : Int32).toInt = 0 := by decide
  have h1 : (1 : Int32).toInt = 1 := by decide
  rw [Int32.lt_iff_toInt_lt, Int32.lt_iff_toInt_lt, Int32.lt_iff_toInt_lt, Int32.le_iff_toInt_le, ← Int32.toInt_inj, h16, h15, h0, h1]
  exact propext (by omega)
theorem r_d (f : Int32) : (f < 0 ∨ 16 ≤ f) = (f < 0 ∨ 15 < f) := by
  have h16 : (16 : Int32).toInt = 16 := by decide
  have h15 : (15 : Int32).toInt = 15 := by decide
  have h0 : (0 : Int32).toInt = 0 := by decide
  rw [Int32.lt_iff_toInt_lt, Int32.lt_iff_toInt_lt, Int32.le_iff_toInt_le, h16, h15, h0]
  exact propext (by omega)
theorem r_f2 (f : Int32) : ((f < 0 ∨ 15 < f) ∨ f = 0) = (f < 1 ∨ 15 < f) := by rw [← r_d, r_f]
theorem r_v (f : Int32) : (f < 0 ∨ ¬ f < 1000) = (f < 0 ∨ 999 < f) := by
  have h16 : (1000 : Int32).toInt = 1000 := by decide
  have h15 : (999 : Int32).toInt = 999 := by decide
  have h0 : (0 : Int32).toInt = 0 := by decide
  rw [Int32.lt_iff_toInt_lt, Int32.lt_iff_toInt_lt, Int32.lt_iff_toInt_lt, h16, h15, h0]
  exact propext (by omega)
theorem wr_ok {M : SM} {S sb L B kd f n R : Nat} {xs : Nat → Int32} {a : Int32} (h : RelX M S sb L xs B) (hp : Prp M S B) (hN : SR M (S + 1) (mI M (S + 149)) n R) (hR : R ≤ B) (hB : B < 2147483648) (hn : n < 40) (ho : okE kd f a) :
    ∃ M3, cl 29 [.ref (S + 14)] (lgApp M (S + 1 + 1) n (nI kd) (nI f) a) = some (none, M3) ∧ M3.2.2 = M.2.2 ∧ mI M3 (S + 149) = mI M (S + 149) ∧ Low M M3 S ∧ ∃ M4 M5, cl 106 [.ref (S + 148)] M3 = some (none, M4) ∧ cl 108 [.ref (S + 148), .int (nI kd), .int (nI f), .int a] M4 = some (some (.int (nI n)), M5) ∧ M4.2.2 = M.2.2 ∧ Rel M5 S sb L xs B := by
  have hF := Fr_lgApp M (S + 1 + 1) n (nI kd) (nI f) a
  obtain ⟨M2, hM2⟩ : ∃ M2, M2 = lgApp M (S + 1 + 1) n (nI kd) (nI f) a := ⟨_, rfl⟩
  have hL2 := LR_lgApp (M := M) (h := S + 1 + 1) hN.1 hn ho
  have hR2 := RR_lgApp (M := M) (h := S + 1 + 1) (r := S + 1 + 7) (kd := nI kd) (f := nI f) (a := a) (by omega) hN.2 hn (by omega)
  rw [← hM2] at hF hL2 hR2 ⊢
  have hX2 := h.xf (XF.of hF (by omega))
  obtain ⟨M3, b1, b2, M4, b3, b4, b5, b6⟩ := commit hX2 (hp.fr (hF.mono (by omega) (by omega)))
  have e149 := (hF.2 (S + 149) (by omega)).1
  have e3 := (b2.2 (S + 149) (by omega)).1
  have e4 := (b6 (S + 149) (by omega)).1
  have hw := c_written (M := M4) (m := S + 148) (n := n) b4.1.2.2.2.2.2.2.2.2.1 (by
    show mI M4 (S + 149) 0 = nI n
    rw [e4, e149]; exact hN.1.2.2.1) hn (nI kd) (nI f) a
  obtain ⟨M5, hM5⟩ : ∃ M5, M5 = sI M4 (S + 148 + 1) (wrW (mI M4 (S + 148 + 1)) n (nI kd) (nI f) a) := ⟨_, rfl⟩
  rw [← hM5] at hw
  refine ⟨M3, b1, b2.1.trans hF.1, e3.trans e149, (Low.of hF (by omega)).trans (Low.of b2 (by omega)), M4, M5, b3, hw, b5.trans hF.1, ?_⟩
  have hF5 : Fr M4 M5 (S + 149) (S + 150) := by rw [hM5]; exact Fr.sI _ (by omega) (by omega)
  have e5 : mI M5 (S + 149) = wrW (mI M (S + 149)) n (nI kd) (nI f) a := by
    rw [hM5, show S + 149 = S + 148 + 1 from rfl, mI_sI, if_pos rfl, show S + 148 + 1 = S + 149 from rfl, e4, e149]
  refine ⟨b4.xf (XF.of hF5 (by omega)), n + 1, R, hR, ?_⟩
  rw [e5]
  exact SR_fr (SR_eq ⟨hL2, hR2⟩ (fun b b1 b2 => b6 b (by omega))) hF5 (by omega)
/-- a write, whatever is given -/
theorem wr_core {M : SM} {S sb L B : Nat} {xs : Nat → Int32} (h : Rel M S sb L xs B) (hB : B < 2147483648) (kd : Nat) (f a d v : Int32) (hk : (kd = 0 ∧ d = a ∧ v = 0) ∨ (kd = 2 ∧ d = a ∧ v = 0) ∨ (kd = 1 ∧ d = 0 ∧ v = a) ∨ (kd = 3 ∧ d = 0 ∧ v = 0 ∧ a = -6)) :
    ∃ M1, cl 13 [.ref (S + 14), .ref (S + 1)] M = some (none, M1) ∧ M1.2.2 = M.2.2 ∧ ∃ e M2 M3, cl 18 [.ref (S + 1), .int (nI kd), .int f, .int a] M1 = some (some (.int e), M2) ∧ cl 28 [.ref S, .int e] M2 = some (some (.int e), M3) ∧ M2.2.2 = M.2.2 ∧ M3.2.2 = M.2.2 ∧ Low M M3 S ∧
      ((e < 0 ∧ cl 103 [.ref (S + 148), .int f, .int d, .int v] M3 = some (some (.int e), M3) ∧ Rel M3 S sb L xs B) ∨
       (cl 103 [.ref (S + 148), .int f, .int d, .int v] M3 = some (some (.int 0), M3) ∧ ∃ M4 M5, cl 106 [.ref (S + 148)] M3 = some (none, M4) ∧ M4.2.2 = M.2.2 ∧ cl 108 [.ref (S + 148), .int (nI kd), .int f, .int a] M4 = some (some (.int e), M5) ∧ Rel M5 S sb L xs B)) := by
  obtain ⟨M1, a1, a2, a3, a4⟩ := c_prepare h
  refine ⟨M1, a1, a3.1, ?_⟩
  obtain ⟨hX, n, R, hR, hN⟩ := id a2
  have n40 := hN.1.2.1
  have hw := c_writeEntry (M := M1) (s := S + 1) hX.1.2.1 hN.1.1 n40 (nI kd) f a
  have hm := hX.1.2.2.2.2.2.2.2.2.1
  have hy := c_whyNotWritten (M := M1) (m := S + 148) hm hN.1.2.2.1 n40 f d v
  have k01 : ((1 : Int32) = 0) = False := by decide
  have k20 : ((2 : Int32) = 0) = False := by decide
  have k30 : ((3 : Int32) = 0) = False := by decide
  have k12 : ((1 : Int32) = 2) = False := by decide
  have k32 : ((3 : Int32) = 2) = False := by decide
  have k21 : ((2 : Int32) = 1) = False := by decide
  have k31 : ((3 : Int32) = 1) = False := by decide
  have k00 : ((0 : Int32) = 1) = False := by decide
  have l00 : ((0 : Int32) < 0) = False := by decide
  have l15 : ((15 : Int32) < 0) = False := by decide
  have l99 : ((999 : Int32) < 0) = False := by decide
  have hcl : cl 18 [.ref (S + 1), .int (nI kd), .int f, .int a] M1 = if (f < 1 ∨ 15 < f) ∨ (d < 0 ∨ 15 < d) then some (some (.int (-1)), M1) else if v < 0 ∨ 999 < v then some (some (.int (-2)), M1) else if n = 40 then some (some (.int (-4)), M1) else some (some (.int (nI n)), lgApp M1 (S + 1 + 1) n (nI kd) f a) := by
    rw [hw]
    simp only [r_d, r_f2, r_v]
    rcases hk with ⟨rfl, rfl, rfl⟩ | ⟨rfl, rfl, rfl⟩ | ⟨rfl, rfl, rfl⟩ | ⟨rfl, rfl, rfl, rfl⟩
    · rw [show nI 0 = 0 from rfl]
      by_cases q1 : f < 1 ∨ 15 < f <;> by_cases q2 : d < 0 ∨ 15 < d <;> simp only [q1, q2, k00, l00, l99, true_or, or_true, or_false, false_or, or_self, true_and, false_and, ↓reduceIte]
    · rw [show nI 2 = 2 from rfl]
      by_cases q1 : f < 1 ∨ 15 < f <;> by_cases q2 : d < 0 ∨ 15 < d <;> simp only [q1, q2, k20, k21, l00, l99, true_or, or_true, or_false, false_or, or_self, true_and, false_and, and_self, ↓reduceIte]
    · rw [show nI 1 = 1 from rfl]
      by_cases q1 : f < 1 ∨ 15 < f <;> by_cases q2 : v < 0 ∨ 999 < v <;> simp only [q1, q2, k01, k12, l00, l15, true_or, or_true, or_false, false_or, or_self, true_and, false_and, and_self, ↓reduceIte]
    · rw [show nI 3 = 3 from rfl]
      by_cases q1 : f < 1 ∨ 15 < f <;> simp only [q1, k30, k31, k32, l00, l15, l99, true_or, or_true, or_false, false_or, or_self, true_and, false_and, and_self, ↓reduceIte]
  have neg : ∀ e : Int32, e < 0 → cl 18 [.ref (S + 1), .int (nI kd), .int f, .int a] M1 = some (some (.int e), M1) → cl 103 [.ref (S + 148), .int f, .int d, .int v] M1 = some (some (.int e), M1) → ∃ e M2 M3, cl 18 [.ref (S + 1), .int (nI kd), .int f, .int a] M1 = some (some (.int e), M2) ∧ cl 28 [.ref S, .int e] M2 = some (some (.int e), M3) ∧ M2.2.2 = M.2.2 ∧ M3.2.2 = M.2.2 ∧ Low M M3 S ∧
      ((e < 0 ∧ cl 103 [.ref (S + 148), .int f, .int d, .int v] M3 = some (some (.int e), M3) ∧ Rel M3 S sb L xs B) ∨
       (cl 103 [.ref (S + 148), .int f, .int d, .int v] M3 = some (some (.int 0), M3) ∧ ∃ M4 M5, cl 106 [.ref (S + 148)] M3 = some (none, M4) ∧ M4.2.2 = M.2.2 ∧ cl 108 [.ref (S + 148), .int (nI kd), .int f, .int a] M4 = some (some (.int e), M5) ∧ Rel M5 S sb L xs B)) :=
    fun e he h1 h2 => ⟨e, M1, M1, h1, c_rec0 he, a3.1, a3.1, Low.of a3 (by omega), Or.inl ⟨he, h2, a2⟩⟩
  by_cases q1 : (f < 1 ∨ 15 < f) ∨ (d < 0 ∨ 15 < d)
  · rw [if_pos q1] at hcl hy
    exact neg _ (by decide) hcl hy
  · rw [if_neg q1] at hcl hy
    by_cases q2 : v < 0 ∨ 999 < v
    · rw [if_pos q2] at hcl hy
      exact neg _ (by decide) hcl hy
    · rw [if_neg q2] at hcl hy
      by_cases q3 : n = 40
      · rw [if_pos q3] at hcl hy
        exact neg _ (by decide) hcl hy
      · rw [if_neg q3] at hcl hy
        have q1f : ¬ ((f < 0 ∨ 16 ≤ f) ∨ f = 0) := by rw [r_f]; exact fun z => q1 (Or.inl z)
        have q1d : ¬ (d < 0 ∨ 16 ≤ d) := by rw [r_d]; exact fun z => q1 (Or.inr z)
        obtain ⟨j, hj, rfl⟩ := isF_of (x := f) (by unfold isF; exact decide_eq_true (fun z => q1f (Or.inl z)))
        have j0 : 0 < j := by
          rcases Nat.eq_zero_or_pos j with z | z
          · subst z; exact absurd (Or.inr rfl) q1f
          · exact z
        have ho : okE kd j a := by
          refine ⟨by omega, hj, j0, ?_, ?_⟩
          · intro z
            have : d = a := by
              rcases hk with ⟨_, z, _⟩ | ⟨_, z, _⟩ | ⟨z, _⟩ | ⟨z, _⟩
              · exact z
              · exact z
              · omega
              · omega
            subst this
            unfold isF
            exact decide_eq_true q1d
          · intro z
            have : v = a := by
              rcases hk with ⟨z, _⟩ | ⟨z, _⟩ | ⟨_, _, z⟩ | ⟨z, _⟩
              · omega
              · omega
              · exact z
              · omega
            subst this
            intro z
            subst z
            exact q2 (Or.inl (by decide))
        obtain ⟨M3, b1, b2, b3, blow, M4, M5, b4, b5, b6, b7⟩ := wr_ok hX a4 hN hR hB (by omega) ho
        have hst := (Fr_lgApp M1 (S + 1 + 1) n (nI kd) (nI j) a).1
        have e1 : mK (lgApp M1 (S + 1 + 1) n (nI kd) (nI j) a) = mK M1 := congrArg (fun z => z.2.1) hst
        have e2 : mP (lgApp M1 (S + 1 + 1) n (nI kd) (nI j) a) = mP M1 := congrArg (fun z => z.1) hst
        have hr := c_rec1 (S := S) (a := nI n) (M := lgApp M1 (S + 1 + 1) n (nI kd) (nI j) a) (M3 := M3) (nI_pos (by omega)) (by rw [e1]; exact hX.1.1.1) (by rw [e2]; exact hX.1.1.2.2.1) (by rw [e1]; exact hX.1.2.2.1.1) b1
        have hy3 := c_whyNotWritten (M := M3) (m := S + 148) (n := n) (hm.st b2) (by
          show mI M3 (S + 149) 0 = nI n
          rw [b3]; exact hN.1.2.2.1) n40 (nI j) d v
        rw [if_neg q1, if_neg q2, if_neg q3] at hy3
        exact ⟨nI n, _, M3, hcl, hr, hst.trans a3.1, b2.trans a3.1, (Low.of a3 (by omega)).trans blow, Or.inr ⟨hy3, M4, M5, b4, b6.trans a3.1, b5, b7⟩⟩
