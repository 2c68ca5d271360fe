/-! the whole relation; what every change does first and last -/
/-- the objects, their links -/
def Stat (M : SM) (S sb L : Nat) : Prop :=
  (mK M S = (10, 0) ∧ mP M S 0 = some (S + 1) ∧ mP M S 1 = some (S + 14) ∧ mP M S 2 = some (S + 107) ∧ mP M S 3 = some (S + 108) ∧ mP M (S + 108) 0 = some (S + 109) ∧ mP M S 4 = some (S + 111) ∧ mP M S 5 = some (S + 117)) ∧
  StAt M (S + 1) ∧
  (mK M (S + 14) = (15, 0) ∧ mP M (S + 14) 0 = some (S + 15) ∧ mK M (S + 15) = (3, 7) ∧ ∀ i, i < 7 → mP M (S + 15) i = some (S + 16 + 13 * i) ∧ StAt M (S + 16 + 13 * i)) ∧
  (mK M (S + 107) = (4, 2) ∧ ∀ i, i < 2 → mP M (S + 107) i = some (S + 120 + 14 * i) ∧ mK M (S + 120 + 14 * i) = (18, 0) ∧ mP M (S + 120 + 14 * i) 0 = some (S + 121 + 14 * i) ∧ StAt M (S + 121 + 14 * i)) ∧
  (mK M (S + 109) = (17, 0) ∧ mP M (S + 109) 0 = some (S + 110) ∧ mK M (S + 110) = (1, 80)) ∧
  (mK M (S + 108) = (16, 0) ∧ mP M (S + 108) 0 = some (S + 109)) ∧
  RepAt M (S + 111) ∧ TreeAt M (S + 117) ∧ ModAt M (S + 148) ∧
  (sb < S ∧ mK M sb = (5, L) ∧ mS M = S + 158 ∧ mU M ≤ 7302250)
theorem Stat.st {M M' : SM} {S sb L : Nat} (h : Stat M S sb L) (e : M'.2.2 = M.2.2) : Stat M' S sb L := by
  have e1 : mK M' = mK M := congrArg (fun z => z.2.1) e
  have e2 : mP M' = mP M := congrArg (fun z => z.1) e
  have e3 : mS M' = mS M := congrArg (fun z => z.2.2.1) e
  have e4 : mU M' = mU M := congrArg (fun z => z.2.2.2) e
  obtain ⟨a, b, c, d, f, g, i, j, k, l⟩ := h
  unfold Stat
  rw [e1, e2, e3, e4]
  exact ⟨a, b.st e, ⟨c.1, c.2.1, c.2.2.1, fun x hx => ⟨(c.2.2.2 x hx).1, (c.2.2.2 x hx).2.st e⟩⟩, ⟨d.1, fun x hx => ⟨(d.2 x hx).1, (d.2 x hx).2.1, (d.2 x hx).2.2.1, (d.2 x hx).2.2.2.st e⟩⟩, f, g, i.st e, j.st e, k.st e, l⟩
/-- the history: class's ring, reference's rows -/
def Hist (M : SM) (S B nx k : Nat) (g : Nat → Int32) : Prop := nx < 7 ∧ k ≤ 6 ∧ mI M (S + 14) 1 = nI nx ∧ mI M (S + 14) 2 = nI k ∧ ∀ i, i < k → ∃ n R, R ≤ B ∧ SR M (S + 16 + 13 * ((nx + 7 - k + i) % 7)) (fun j => g (370 * i + j)) n R
def Slots (M : SM) (S B : Nat) : Prop := ∀ i, i < 2 → mI M (S + 120 + 14 * i) 1 = mI M (S + 153) i ∧ (mI M (S + 153) i = 0 ∨ (mI M (S + 153) i = 1 ∧ ∃ n R, R ≤ B ∧ SR M (S + 121 + 14 * i) (fun j => mI M (S + 152) (370 * i + j)) n R))
def PadR (M : SM) (S : Nat) : Prop := ∃ l, l ≤ 80 ∧ mI M (S + 109) 1 = nI l ∧ mI M (S + 148) 7 = nI l ∧ ∀ j, j < l → mI M (S + 110) j = mI M (S + 154) j ∧ 33 ≤ mI M (S + 110) j ∧ mI M (S + 110) j ≤ 126
/-- all but the state of now -/
def RelX (M : SM) (S sb L : Nat) (xs : Nat → Int32) (B : Nat) : Prop := Stat M S sb L ∧ (∃ nx k, Hist M S B nx k (mI M (S + 151)) ∧ mI M (S + 148) 3 = nI k) ∧ Slots M S B ∧ PadR M S ∧ mI M sb = xs
def Rel (M : SM) (S sb L : Nat) (xs : Nat → Int32) (B : Nat) : Prop := RelX M S sb L xs B ∧ ∃ n R, R ≤ B ∧ SR M (S + 1) (mI M (S + 149)) n R
/-- what may change without touching RelX -/
def XF (M M' : SM) (S : Nat) : Prop := M'.2.2 = M.2.2 ∧ (∀ b, (b < S ∨ (S + 14 ≤ b ∧ b < S + 108) ∨ (S + 109 ≤ b ∧ b < S + 111) ∨ (S + 120 ≤ b ∧ b < S + 148) ∨ (S + 151 ≤ b ∧ b < S + 155)) → mI M' b = mI M b ∧ mJ M' b = mJ M b) ∧ mI M' (S + 148) 3 = mI M (S + 148) 3 ∧ mI M' (S + 148) 7 = mI M (S + 148) 7
theorem XF.trans {M M1 M2 : SM} {S : Nat} (h : XF M M1 S) (g : XF M1 M2 S) : XF M M2 S := ⟨g.1.trans h.1, fun b hb => ⟨(g.2.1 b hb).1.trans (h.2.1 b hb).1, (g.2.1 b hb).2.trans (h.2.1 b hb).2⟩, g.2.2.1.trans h.2.2.1, g.2.2.2.trans h.2.2.2⟩
theorem XF.of {M M' : SM} {S lo hi : Nat} (h : Fr M M' lo hi) (hd : (S ≤ lo ∧ hi ≤ S + 14) ∨ (S + 108 ≤ lo ∧ hi ≤ S + 109) ∨ (S + 111 ≤ lo ∧ hi ≤ S + 120) ∨ (S + 149 ≤ lo ∧ hi ≤ S + 151) ∨ S + 155 ≤ lo) : XF M M' S := ⟨h.1, fun b hb => h.2 b (by omega), by rw [(h.2 (S + 148) (by omega)).1], by rw [(h.2 (S + 148) (by omega)).1]⟩
theorem SR_eq {M M' : SM} {s n R : Nat} {w : Nat → Int32} (h : SR M s w n R) (he : ∀ b, s + 1 ≤ b → b < s + 13 → mI M' b = mI M b ∧ mJ M' b = mJ M b) : SR M' s w n R := by
  refine ⟨?_, ?_⟩
  · unfold LR
    rw [(he (s + 1) (by omega) (by omega)).1, (he (s + 1) (by omega) (by omega)).2, (he (s + 1 + 1) (by omega) (by omega)).1, (he (s + 1 + 2) (by omega) (by omega)).1, (he (s + 1 + 3) (by omega) (by omega)).1, (he (s + 1 + 4) (by omega) (by omega)).2, (he (s + 1 + 5) (by omega) (by omega)).2]
    exact h.1
  · unfold RR
    rw [(he (s + 7) (by omega) (by omega)).1, (he (s + 7) (by omega) (by omega)).2, (he (s + 7 + 1) (by omega) (by omega)).1, (he (s + 7 + 2) (by omega) (by omega)).1, (he (s + 7 + 4) (by omega) (by omega)).1, (he (s + 7 + 5) (by omega) (by omega)).1]
    exact h.2
theorem RelX.xf {M M' : SM} {S sb L B : Nat} {xs : Nat → Int32} (h : RelX M S sb L xs B) (hF : XF M M' S) : RelX M' S sb L xs B := by
  obtain ⟨hS, ⟨nx, k, ⟨h1, h2, h3, h4, h5⟩, h6⟩, hs, ⟨l, p1, p2, p3, p4⟩, hx⟩ := h
  obtain ⟨f1, f2, f3, f4⟩ := hF
  have hsb := hS.2.2.2.2.2.2.2.2.2.1
  refine ⟨hS.st f1, ⟨nx, k, ⟨h1, h2, ?_, ?_, ?_⟩, f3.trans h6⟩, ?_, ⟨l, p1, ?_, f4.trans p3, ?_⟩, ?_⟩
  · rw [(f2 (S + 14) (by omega)).1]; exact h3
  · rw [(f2 (S + 14) (by omega)).1]; exact h4
  · intro i hi
    obtain ⟨n, R, a, b⟩ := h5 i hi
    rw [(f2 (S + 151) (by omega)).1]
    exact ⟨n, R, a, SR_eq b (fun b b1 b2 => f2 b (by omega))⟩
  · intro i hi
    obtain ⟨a, b⟩ := hs i hi
    rw [(f2 (S + 120 + 14 * i) (by omega)).1, (f2 (S + 153) (by omega)).1, (f2 (S + 152) (by omega)).1]
    refine ⟨a, ?_⟩
    rcases b with b | ⟨b, n, R, c, d⟩
    · exact Or.inl b
    · exact Or.inr ⟨b, n, R, c, SR_eq d (fun b b1 b2 => f2 b (by omega))⟩
  · rw [(f2 (S + 109) (by omega)).1]; exact p2
  · rw [(f2 (S + 110) (by omega)).1, (f2 (S + 154) (by omega)).1]; exact p4
  · rw [(f2 sb (by omega)).1]; exact hx
theorem RelX.up {M : SM} {S sb L B B' : Nat} {xs : Nat → Int32} (h : RelX M S sb L xs B) (hB : B ≤ B') : RelX M S sb L xs B' := by
  obtain ⟨hS, ⟨nx, k, ⟨h1, h2, h3, h4, h5⟩, h6⟩, hs, hp, hx⟩ := h
  refine ⟨hS, ⟨nx, k, ⟨h1, h2, h3, h4, fun i hi => ?_⟩, h6⟩, fun i hi => ⟨(hs i hi).1, ?_⟩, hp, hx⟩
  · obtain ⟨n, R, a, b⟩ := h5 i hi
    exact ⟨n, R, by omega, b⟩
  · rcases (hs i hi).2 with b | ⟨b, n, R, c, d⟩
    · exact Or.inl b
    · exact Or.inr ⟨b, n, R, by omega, d⟩
/-- before a change: the state of now is copied to the next place -/
theorem c_prepare {M : SM} {S sb L B : Nat} {xs : Nat → Int32} (h : Rel M S sb L xs B) : ∃ M1, cl 13 [.ref (S + 14), .ref (S + 1)] M = some (none, M1) ∧ Rel M1 S sb L xs B ∧ Fr M M1 (S + 16) (S + 107) ∧ ∃ nx n R, nx < 7 ∧ mI M1 (S + 14) 1 = nI nx ∧ R ≤ B ∧ SR M1 (S + 16 + 13 * nx) (mI M1 (S + 149)) n R := by
  obtain ⟨⟨hS, ⟨nx, k, ⟨h1, h2, h3, h4, h5⟩, h6⟩, hs, ⟨l, p1, p2, p3, p4⟩, hx⟩, n, R, hB, hN⟩ := h
  obtain ⟨a, b, ⟨c1, c2, c3, c4⟩, d, f, g, i, j, kk, ⟨hsb, l'⟩⟩ := id hS
  obtain ⟨cp, cs⟩ := c4 nx h1
  obtain ⟨M1, q1, q2, q3⟩ := c_stCopy cs b (by omega)
  have hin : inR (nI nx) 7 = True := i_inT h1 (by decide)
  have e149 := q2.2 (S + 149) (by omega)
  refine ⟨M1, ?_, ⟨⟨hS.st q2.1, ⟨nx, k, ⟨h1, h2, ?_, ?_, ?_⟩, ?_⟩, ?_, ⟨l, p1, ?_, ?_, ?_⟩, ?_⟩, n, R, hB, ?_⟩, q2.mono (by omega) (by omega), nx, n, R, h1, ?_, hB, ?_⟩
  · show rn 13 0 [some (.ref (S + 14)), some (.ref (S + 1))] [] M = _
    simp only [t13_0, t13_1, t13_4, t13_5, t13_8, t13_9, t13_10, t13_13, c1, c2, c3, h3, va_rf_s, ↓reduceIte, true_or, hin, and_self, nI_c (show nx < 2147483648 by omega), cp, cs.1, q1, cbn_v]
  · rw [(q2.2 (S + 14) (by omega)).1]; exact h3
  · rw [(q2.2 (S + 14) (by omega)).1]; exact h4
  · intro x hx
    obtain ⟨n', R', u, v⟩ := h5 x hx
    rw [(q2.2 (S + 151) (by omega)).1]
    refine ⟨n', R', u, SR_fr v q2 ?_⟩
    have : (nx + 7 - k + x) % 7 < nx ∨ nx < (nx + 7 - k + x) % 7 := by omega
    omega
  · rw [(q2.2 (S + 148) (by omega)).1]; exact h6
  · intro x hx
    obtain ⟨u, v⟩ := hs x hx
    rw [(q2.2 (S + 120 + 14 * x) (by omega)).1, (q2.2 (S + 153) (by omega)).1, (q2.2 (S + 152) (by omega)).1]
    refine ⟨u, ?_⟩
    rcases v with v | ⟨v, n, R, y, z⟩
    · exact Or.inl v
    · exact Or.inr ⟨v, n, R, y, SR_fr z q2 (by omega)⟩
  · rw [(q2.2 (S + 109) (by omega)).1]; exact p2
  · rw [(q2.2 (S + 148) (by omega)).1]; exact p3
  · rw [(q2.2 (S + 110) (by omega)).1, (q2.2 (S + 154) (by omega)).1]; exact p4
  · rw [(q2.2 sb (by omega)).1]; exact hx
  · rw [e149.1]; exact SR_fr hN q2 (by omega)
  · rw [(q2.2 (S + 14) (by omega)).1]; exact h3
  · rw [e149.1]; exact q3 _ _ _ hN
