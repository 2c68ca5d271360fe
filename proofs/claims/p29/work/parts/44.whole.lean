/-! as in whole -/
/-- the objects, their links -/
def Stat (M : SM) (S sb L : Nat) : Prop :=
  (mK M S = (10, 0) ∧ mP M S 0 = some (S + 1) ∧ mP M S 1 = some (S + 14) ∧ mP M S 2 = some (S + 107) ∧ mP M S 3 = some (S + 108) ∧ mP M (S + 108) 0 = some (S + 109) ∧ mP M S 4 = some (S + 111) ∧ mP M S 5 = some (S + 117)) ∧
  StAt M (S + 1) ∧
  (mK M (S + 14) = (15, 0) ∧ mP M (S + 14) 0 = some (S + 15) ∧ mK M (S + 15) = (3, 7) ∧ ∀ i, i < 7 → mP M (S + 15) i = some (S + 16 + 13 * i) ∧ StAt M (S + 16 + 13 * i)) ∧
  (mK M (S + 107) = (4, 2) ∧ ∀ i, i < 2 → mP M (S + 107) i = some (S + 120 + 14 * i) ∧ mK M (S + 120 + 14 * i) = (18, 0) ∧ mP M (S + 120 + 14 * i) 0 = some (S + 121 + 14 * i) ∧ StAt M (S + 121 + 14 * i)) ∧
  (mK M (S + 109) = (17, 0) ∧ mP M (S + 109) 0 = some (S + 110) ∧ mK M (S + 110) = (1, 80)) ∧
  (mK M (S + 108) = (16, 0) ∧ mP M (S + 108) 0 = some (S + 109)) ∧
  RepAt M (S + 111) ∧ TreeAt M (S + 117) ∧ ModAt M (S + 148) ∧
  (sb < S ∧ mK M sb = (5, L) ∧ mS M = S + 158 ∧ mU M ≤ 7302250)
theorem Stat.st {M M' : SM} {S sb L : Nat} (h : Stat M S sb L) (e : M'.2.2 = M.2.2) : Stat M' S sb L := by
  have e1 : mK M' = mK M := congrArg (fun z => z.2.1) e
  have e2 : mP M' = mP M := congrArg (fun z => z.1) e
  have e3 : mS M' = mS M := congrArg (fun z => z.2.2.1) e
  have e4 : mU M' = mU M := congrArg (fun z => z.2.2.2) e
  obtain ⟨a, b, c, d, f, g, i, j, k, l⟩ := h
  unfold Stat
  rw [e1, e2, e3, e4]
  exact ⟨a, b.st e, ⟨c.1, c.2.1, c.2.2.1, fun x hx => ⟨(c.2.2.2 x hx).1, (c.2.2.2 x hx).2.st e⟩⟩, ⟨d.1, fun x hx => ⟨(d.2 x hx).1, (d.2 x hx).2.1, (d.2 x hx).2.2.1, (d.2 x hx).2.2.2.st e⟩⟩, f, g, i.st e, j.st e, k.st e, l⟩
/-- the history: class's ring, reference's rows -/
def Hist (M : SM) (S B nx k : Nat) (g : Nat → Int32) : Prop := nx < 7 ∧ k ≤ 6 ∧ mI M (S + 14) 1 = nI nx ∧ mI M (S + 14) 2 = nI k ∧ ∀ i, i < k → ∃ n R, R ≤ B ∧ SR M (S + 16 + 13 * ((nx + 7 - k + i) % 7)) (fun j => g (370 * i + j)) n R
def Slots (M : SM) (S B : Nat) : Prop := ∀ i, i < 2 → mI M (S + 120 + 14 * i) 1 = mI M (S + 153) i ∧ (mI M (S + 153) i = 0 ∨ (mI M (S + 153) i = 1 ∧ ∃ n R, R ≤ B ∧ SR M (S + 121 + 14 * i) (fun j => mI M (S + 152) (370 * i + j)) n R))
def PadR (M : SM) (S : Nat) : Prop := ∃ l, l ≤ 80 ∧ mI M (S + 109) 1 = nI l ∧ mI M (S + 148) 7 = nI l ∧ ∀ j, j < l → mI M (S + 110) j = mI M (S + 154) j ∧ 33 ≤ mI M (S + 110) j ∧ mI M (S + 110) j ≤ 126
/-- all but the state of now -/
def RelX (M : SM) (S sb L : Nat) (xs : Nat → Int32) (B : Nat) : Prop := Stat M S sb L ∧ (∃ nx k, Hist M S B nx k (mI M (S + 151)) ∧ mI M (S + 148) 3 = nI k) ∧ Slots M S B ∧ PadR M S ∧ mI M sb = xs
/-- what may change without touching RelX -/
def XF (M M' : SM) (S : Nat) : Prop := M'.2.2 = M.2.2 ∧ (∀ b, (b < S ∨ (S + 14 ≤ b ∧ b < S + 108) ∨ (S + 109 ≤ b ∧ b < S + 111) ∨ (S + 120 ≤ b ∧ b < S + 148) ∨ (S + 151 ≤ b ∧ b < S + 155)) → mI M' b = mI M b ∧ mJ M' b = mJ M b) ∧ mI M' (S + 148) 3 = mI M (S + 148) 3 ∧ mI M' (S + 148) 7 = mI M (S + 148) 7
theorem XF.trans {M M1 M2 : SM} {S : Nat} (h : XF M M1 S) (g : XF M1 M2 S) : XF M M2 S := ⟨g.1.trans h.1, fun b hb => ⟨(g.2.1 b hb).1.trans (h.2.1 b hb).1, (g.2.1 b hb).2.trans (h.2.1 b hb).2⟩, g.2.2.1.trans h.2.2.1, g.2.2.2.trans h.2.2.2⟩
