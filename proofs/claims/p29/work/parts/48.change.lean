/-! as in whole -/
/-- an operation of the reference touches its row of the state, and its leans -/
def OpF (M M' : SM) (m : Nat) : Prop := M'.2.2 = M.2.2 ∧ ∀ b, b ≠ m + 1 → b ≠ m + 7 → mI M' b = mI M b ∧ mJ M' b = mJ M b
theorem OpF.trans {M M1 M2 : SM} {m : Nat} (h : OpF M M1 m) (g : OpF M1 M2 m) : OpF M M2 m := ⟨g.1.trans h.1, fun b h1 h2 => ⟨(g.2 b h1 h2).1.trans (h.2 b h1 h2).1, (g.2 b h1 h2).2.trans (h.2 b h1 h2).2⟩⟩
theorem OpF.sI (M : SM) (m : Nat) (f : Nat → Int32) : OpF M (sI M (m + 1) f) m := ⟨rfl, fun b h1 _ => ⟨by rw [mI_sI, if_neg h1], rfl⟩⟩
theorem leanT_out {nd g : Nat → Int64} {a : Nat} : ∀ (m x : Nat), (x < a ∨ a + m ≤ x) → leanT nd g a m x = g x := by
  intro m
  induction m with
  | zero => intro x _; rfl
  | succ m ih =>
    intro x hx
    show va_up _ (a + m) _ x = _
    rw [va_up_ne _ _ (by omega)]
    exact ih x (by omega)
theorem leanT_at {nd g : Nat → Int64} {a : Nat} : ∀ (m x : Nat), a ≤ x → x < a + m → leanT nd g a m x = orL (nd x) (leanT nd g a m) x := by
  intro m
  induction m with
  | zero => intro x h1 h2; omega
  | succ m ih =>
    intro x h1 h2
    show va_up (leanT nd g a m) (a + m) (orL (nd (a + m)) (leanT nd g a m) (a + m)) x = orL (nd x) (va_up (leanT nd g a m) (a + m) (orL (nd (a + m)) (leanT nd g a m) (a + m))) x
    by_cases q : x = a + m
    · subst q
      rw [va_up_self]
      exact orL_cong (fun k hk => by rw [va_up_ne _ _ (by omega)])
    · rw [va_up_ne _ _ q, ih x h1 (by omega)]
      exact orL_cong (fun k hk => by rw [va_up_ne _ _ (by omega)])
theorem ent_of {x : Int32} {n : Nat} (hn : n < 2147483648) (h : ¬ (x < 0 ∨ nI n ≤ x)) : ∃ e, e < n ∧ x = nI e := by
  rcases pk_ix x (n := n) hn with q | q | q
  · exact absurd (Or.inl q) h
  · exact absurd (Or.inr q) h
  · exact q
theorem ent_in {e n : Nat} (hn : n < 2147483648) (h : e < n) : (nI e < 0 ∨ nI n ≤ nI e) = False := by
  rw [lt0 (show e < 2147483648 by omega), i_le hn (by omega), false_or]
  exact eq_false (by omega)
theorem pred_lt {x : Int32} {n : Nat} (hn : n ≤ 40) : (nI n - 1 < x) = (nI n ≤ x) := by
  have e : (nI n - 1).toInt = (n : Int) - 1 := (by decide +kernel : ∀ n, n < 41 → (nI n - 1).toInt = (n : Int) - 1) n (by omega)
  have e2 : (nI n).toInt = (n : Int) := nI_toInt (by omega)
  rw [Int32.lt_iff_toInt_lt, Int32.le_iff_toInt_le, e, e2]
  exact propext (by omega)
theorem Fr_rClr (M : SM) (r : Nat) : Fr M (rClr M r) r (r + 6) := by
  unfold rClr
  refine ((((((Fr.sJ _ ?_ ?_).trans (Fr.sI _ ?_ ?_)).trans (Fr.sI _ ?_ ?_)).trans (Fr.sI _ ?_ ?_)).trans (Fr.sI _ ?_ ?_)).trans (Fr.sI _ ?_ ?_)) <;> omega
