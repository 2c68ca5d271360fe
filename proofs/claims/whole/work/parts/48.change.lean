/-! a change, whatever it is -/
/-- an operation of the reference touches its row of the state, and its leans -/
def OpF (M M' : SM) (m : Nat) : Prop := M'.2.2 = M.2.2 ∧ ∀ b, b ≠ m + 1 → b ≠ m + 7 → mI M' b = mI M b ∧ mJ M' b = mJ M b
theorem OpF.refl (M : SM) (m : Nat) : OpF M M m := ⟨rfl, fun _ _ _ => ⟨rfl, rfl⟩⟩
theorem OpF.trans {M M1 M2 : SM} {m : Nat} (h : OpF M M1 m) (g : OpF M1 M2 m) : OpF M M2 m := ⟨g.1.trans h.1, fun b h1 h2 => ⟨(g.2 b h1 h2).1.trans (h.2 b h1 h2).1, (g.2 b h1 h2).2.trans (h.2 b h1 h2).2⟩⟩
theorem OpF.sI (M : SM) (m : Nat) (f : Nat → Int32) : OpF M (sI M (m + 1) f) m := ⟨rfl, fun b h1 _ => ⟨by rw [mI_sI, if_neg h1], rfl⟩⟩
theorem OpF.flM (M : SM) (m n : Nat) : OpF M (flM M m n) m := ⟨rfl, fun b _ h2 => ⟨rfl, flM_J h2⟩⟩
theorem OpF.xf {M M' : SM} {S : Nat} (h : OpF M M' (S + 148)) : XF M M' S := ⟨h.1, fun b hb => h.2 b (by omega) (by omega), by rw [(h.2 (S + 148) (by omega) (by omega)).1], by rw [(h.2 (S + 148) (by omega) (by omega)).1]⟩
/-- one operation on both sides: refused alike, or done alike -/
def StepR (C C' : SM) (s : Nat) (w : Nat → Int32) (e : Int32) (why op : SM → Nat → Out) (B : Nat) : Prop :=
  (e < 0 ∧ C' = C ∧ ∀ M m, ModAt M m → mI M (m + 1) = w → why M m = some (some (.int e), M)) ∨
  (¬ e < 0 ∧ ∀ M m, ModAt M m → mI M (m + 1) = w → why M m = some (some (.int 0), M) ∧ ∃ M', op M m = some (some (.int e), M') ∧ OpF M M' m ∧ ∃ n R, R ≤ B ∧ SR C' s (mI M' (m + 1)) n R)
theorem chg {M1 M2 : SM} {S sb L B B' : Nat} {xs : Nat → Int32} {e : Int32} {why op : SM → Nat → Out} (h : Rel M1 S sb L xs B) (hp : Prp M1 S B) (hF : Fr M1 M2 (S + 2) (S + 14)) (hB : B ≤ B') (hst : StepR M1 M2 (S + 1) (mI M1 (S + 149)) e why op B') :
    ∃ M3, cl 28 [.ref S, .int e] M2 = some (some (.int e), M3) ∧ M3.2.2 = M1.2.2 ∧ (∀ b, b < S → mI M3 b = mI M1 b) ∧
      ((e < 0 ∧ why M3 (S + 148) = some (some (.int e), M3) ∧ Rel M3 S sb L xs B') ∨
       (¬ e < 0 ∧ why M3 (S + 148) = some (some (.int 0), M3) ∧ ∃ M4 M5, cl 106 [.ref (S + 148)] M3 = some (none, M4) ∧ M4.2.2 = M1.2.2 ∧ op M4 (S + 148) = some (some (.int e), M5) ∧ Rel M5 S sb L xs B')) := by
  have hm := h.1.1.2.2.2.2.2.2.2.2.1
  rcases hst with ⟨he, rfl, hw⟩ | ⟨he, hw⟩
  · exact ⟨M2, c_rec0 he, rfl, fun _ _ => rfl, Or.inl ⟨he, hw M2 (S + 148) hm rfl, h.up hB⟩⟩
  · have hX2 := h.1.xf (XF.of hF (by omega))
    obtain ⟨M3, b1, b2, M4, b3, b4, b5, b6⟩ := commit hX2 (hp.fr (hF.mono (by omega) (by omega)))
    have e2 := (hF.2 (S + 149) (by omega)).1
    have e3 := (b2.2 (S + 149) (by omega)).1
    have e4 := (b6 (S + 149) (by omega)).1
    have hr := c_rec1 (S := S) (a := e) (M := M2) (M3 := M3) he hX2.1.1.1 hX2.1.1.2.2.1 hX2.1.2.2.1.1 b1
    obtain ⟨w3, -⟩ := hw M3 (S + 148) ((hm.st hF.1).st b2.1) (e3.trans e2)
    obtain ⟨-, M5, o1, o2, n, R, hR, hS⟩ := hw M4 (S + 148) ((hm.st hF.1).st b5) (e4.trans e2)
    refine ⟨M3, hr, b2.1.trans hF.1, fun b hb => ((b2.2 b (by omega)).1).trans (hF.2 b (by omega)).1, Or.inr ⟨he, w3, M4, M5, b3, b5.trans hF.1, o1, (b4.xf o2.xf).up hB, n, R, hR, ?_⟩⟩
    exact SR_eq hS (fun b b1 b2 => by
      have x := o2.2 b (by omega) (by omega)
      have y := b6 b (by omega)
      exact ⟨x.1.trans y.1, x.2.trans y.2⟩)
theorem leanT_out {nd g : Nat → Int64} {a : Nat} : ∀ (m x : Nat), (x < a ∨ a + m ≤ x) → leanT nd g a m x = g x := by
  intro m
  induction m with
  | zero => intro x _; rfl
  | succ m ih =>
    intro x hx
    show va_up _ (a + m) _ x = _
    rw [va_up_ne _ _ (by omega)]
    exact ih x (by omega)
theorem leanT_at {nd g : Nat → Int64} {a : Nat} : ∀ (m x : Nat), a ≤ x → x < a + m → leanT nd g a m x = orL (nd x) (leanT nd g a m) x := by
  intro m
  induction m with
  | zero => intro x h1 h2; omega
  | succ m ih =>
    intro x h1 h2
    show va_up (leanT nd g a m) (a + m) (orL (nd (a + m)) (leanT nd g a m) (a + m)) x = orL (nd x) (va_up (leanT nd g a m) (a + m) (orL (nd (a + m)) (leanT nd g a m) (a + m))) x
    by_cases q : x = a + m
    · subst q
      rw [va_up_self]
      exact orL_cong (fun k hk => by rw [va_up_ne _ _ (by omega)])
    · rw [va_up_ne _ _ q, ih x h1 (by omega)]
      exact orL_cong (fun k hk => by rw [va_up_ne _ _ (by omega)])
theorem ent_of {x : Int32} {n : Nat} (hn : n < 2147483648) (h : ¬ (x < 0 ∨ nI n ≤ x)) : ∃ e, e < n ∧ x = nI e := by
  rcases pk_ix x (n := n) hn with q | q | q
  · exact absurd (Or.inl q) h
  · exact absurd (Or.inr q) h
  · exact q
theorem ent_in {e n : Nat} (hn : n < 2147483648) (h : e < n) : (nI e < 0 ∨ nI n ≤ nI e) = False := by
  rw [lt0 (show e < 2147483648 by omega), i_le hn (by omega), false_or]
  exact eq_false (by omega)
theorem pred_lt {x : Int32} {n : Nat} (hn : n ≤ 40) : (nI n - 1 < x) = (nI n ≤ x) := by
  have e : (nI n - 1).toInt = (n : Int) - 1 := (by decide +kernel : ∀ n, n < 41 → (nI n - 1).toInt = (n : Int) - 1) n (by omega)
  have e2 : (nI n).toInt = (n : Int) := nI_toInt (by omega)
  rw [Int32.lt_iff_toInt_lt, Int32.le_iff_toInt_le, e, e2]
  exact propext (by omega)
theorem c_mEntry {M : SM} {m n : Nat} (h : ModAt M m) (hn : mI M (m + 1) 0 = nI n) (h40 : n ≤ 40) (x : Int32) : cl 121 [.ref m, .int x] M = some (some (.int (if x < 0 ∨ nI n ≤ x then 0 else 1)), M) := by
  rw [c_isEntry h hn x]
  simp only [pred_lt h40]
theorem Fr_rClr (M : SM) (r : Nat) : Fr M (rClr M r) r (r + 6) := by
  unfold rClr
  refine ((((((Fr.sJ _ ?_ ?_).trans (Fr.sI _ ?_ ?_)).trans (Fr.sI _ ?_ ?_)).trans (Fr.sI _ ?_ ?_)).trans (Fr.sI _ ?_ ?_)).trans (Fr.sI _ ?_ ?_)) <;> omega
