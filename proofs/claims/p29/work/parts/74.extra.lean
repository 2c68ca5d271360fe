/-! more, as in whole -/
abbrev B31 : Nat := 2147483648
theorem leN (n : Nat) {k : Nat} (hn : n < B31) (hk : k < B31) : (nI n ≤ nI k) = (n ≤ k) := i_le hn hk
theorem sI_comm (M : SM) {a b : Nat} (h : a ≠ b) (f g : Nat → Int32) : sI (sI M a f) b g = sI (sI M b g) a f := by
  unfold sI
  refine Prod.ext ?_ rfl
  funext c
  by_cases h1 : c = a
  · subst h1; simp [mI, h]
  · by_cases h2 : c = b
    · subst h2; simp [mI, h1]
    · simp [mI, h1, h2]
theorem tSet_self (M : SM) (t : Nat) : tSet M t (tD M t) (tV M t) = M := by
  unfold tSet tD tV
  rw [sI_self, sI_self]
theorem c_lhas {M : SM} {h : Nat} (hL : LogAt M h) (x : Int32) : cl 36 [.ref h, .int x] M = some (some (.int (if x < 0 ∨ mI M h 0 ≤ x then 0 else 1)), M) := by
  show rn 36 0 [some (.ref h), some (.int x)] [] M = _
  have h1 := hL.1
  by_cases a : x < 0 <;> by_cases b : mI M h 0 ≤ x <;> simp [t36_0, t36_1, t36_4, t36_5, t36_6, t36_9, t36_12, t36_13, t36_16, t36_17, h1, a, b]
theorem SR_eq {M M' : SM} {s n R : Nat} {w : Nat → Int32} (h : SR M s w n R) (he : ∀ b, s + 1 ≤ b → b < s + 13 → mI M' b = mI M b ∧ mJ M' b = mJ M b) : SR M' s w n R := by
  refine ⟨?_, ?_⟩
  · unfold LR
    rw [(he (s + 1) (by omega) (by omega)).1, (he (s + 1) (by omega) (by omega)).2, (he (s + 1 + 1) (by omega) (by omega)).1, (he (s + 1 + 2) (by omega) (by omega)).1, (he (s + 1 + 3) (by omega) (by omega)).1, (he (s + 1 + 4) (by omega) (by omega)).2, (he (s + 1 + 5) (by omega) (by omega)).2]
    exact h.1
  · unfold RR
    rw [(he (s + 7) (by omega) (by omega)).1, (he (s + 7) (by omega) (by omega)).2, (he (s + 7 + 1) (by omega) (by omega)).1, (he (s + 7 + 2) (by omega) (by omega)).1, (he (s + 7 + 4) (by omega) (by omega)).1, (he (s + 7 + 5) (by omega) (by omega)).1]
    exact h.2
theorem upN_st {D : Nat → Int32} : ∀ (n : Nat) (a : Int32), trm D (n + 1) a → upN D (n + 1) a = upN D n a := by
  intro n
  induction n with
  | zero =>
    intro a h
    rcases h with rfl | ⟨-, h⟩
    · simp only [upN, f6, Bool.false_eq_true, ↓reduceIte]
    · exact h.elim
  | succ n ih =>
    intro a h
    rcases h with rfl | ⟨h1, h⟩
    · simp only [upN, f6, Bool.false_eq_true, ↓reduceIte]
    · have := ih _ h
      rw [show upN D (n + 1 + 1) a = if isF a = true then upN D (n + 1) (D a.toNatClampNeg) + 1 else 0 from rfl, this]
      rfl
def wst (lost : Int64) (c : Nat → Nat) : Nat → Int32 × Int32
  | 0 => (-6, -6)
  | k + 1 => if bt lost k = true then wst lost c k else if (wst lost c k).2 < nI (c k) then (nI k, nI (c k)) else wst lost c k
theorem wst_or {lost : Int64} {c : Nat → Nat} (hc : ∀ k, c k ≤ 64) : ∀ k, k ≤ 64 → wst lost c k = (-6, -6) ∨ ∃ j d, j < 64 ∧ d ≤ 64 ∧ wst lost c k = (nI j, nI d) := by
  intro k
  induction k with
  | zero => intro _; exact Or.inl rfl
  | succ k ih =>
    intro hk
    have ih := ih (by omega)
    unfold wst
    split
    · exact ih
    · split
      · exact Or.inr ⟨k, c k, by omega, hc k, rfl⟩
      · exact ih
/-- the tree of the order of writing -/
def woT (K F A : Nat → Int32) (lost : Int64) (s0 : (Nat → Int32) × (Nat → Int32)) : Nat → (Nat → Int32) × (Nat → Int32)
  | 0 => s0
  | k + 1 =>
    let s := woT K F A lost s0 k
    if bt lost k = true then s else if rfs s.1 s.2 (K k).toNatClampNeg (F k).toNatClampNeg (A k) = 0 then (pD s.1 (K k).toNatClampNeg (F k).toNatClampNeg (A k), pV s.2 (K k).toNatClampNeg (F k).toNatClampNeg (A k)) else s
theorem woT_t {K F A : Nat → Int32} {lost : Int64} {s0 : (Nat → Int32) × (Nat → Int32)} {k : Nat} (h : bt lost k = true) : woT K F A lost s0 (k + 1) = woT K F A lost s0 k := by
  conv => lhs; unfold woT
  rw [if_pos h]
theorem woT_f {K F A : Nat → Int32} {lost : Int64} {s0 : (Nat → Int32) × (Nat → Int32)} {k : Nat} (h : bt lost k = false) : woT K F A lost s0 (k + 1) = if rfs (woT K F A lost s0 k).1 (woT K F A lost s0 k).2 (K k).toNatClampNeg (F k).toNatClampNeg (A k) = 0 then (pD (woT K F A lost s0 k).1 (K k).toNatClampNeg (F k).toNatClampNeg (A k), pV (woT K F A lost s0 k).2 (K k).toNatClampNeg (F k).toNatClampNeg (A k)) else woT K F A lost s0 k := by
  conv => lhs; unfold woT
  rw [if_neg (by rw [h]; decide)]
theorem tSet_2 (M : SM) (t : Nat) (D V D' V' : Nat → Int32) : tSet (tSet M t D V) t D' V' = tSet M t D' V' := by
  unfold tSet
  rw [sI_comm _ (show t + 2 ≠ t + 1 by omega), sI_sI, sI_sI]
theorem tSet_tD (M : SM) (t : Nat) (D V : Nat → Int32) : tD (tSet M t D V) t = D := by
  unfold tD tSet
  rw [mI_sI, if_neg (by omega), mI_sI, if_pos rfl]
theorem tSet_tV (M : SM) (t : Nat) (D V : Nat → Int32) : tV (tSet M t D V) t = V := by
  unfold tV tSet
  rw [mI_sI, if_pos rfl]
theorem tSet_I {M : SM} {t b : Nat} {D V : Nat → Int32} (h : b < t + 1 ∨ t + 3 ≤ b) : mI (tSet M t D V) b = mI M b := by
  unfold tSet
  rw [mI_sI, if_neg (by omega), mI_sI, if_neg (by omega)]
theorem Fr_tSet (M : SM) (t : Nat) (D V : Nat → Int32) : Fr M (tSet M t D V) t (t + 3) := ⟨rfl, fun b hb => ⟨tSet_I (by omega), rfl⟩⟩
