/-! as in whole -/
def CF (C C' : SM) (S : Nat) : Prop := C'.2.2 = C.2.2 ∧ ∀ b, (b < S + 2 ∨ (S + 14 ≤ b ∧ b < S + 108) ∨ S + 109 ≤ b) → Same C C' b
theorem CF.trans {M M1 M2 : SM} {S : Nat} (h : CF M M1 S) (g : CF M1 M2 S) : CF M M2 S := ⟨g.1.trans h.1, fun b hb => ⟨(g.2 b hb).1.trans (h.2 b hb).1, (g.2 b hb).2.trans (h.2 b hb).2⟩⟩
def NF (N N' : SM) (m : Nat) : Prop := N'.2.2 = N.2.2 ∧ (∀ b, b ≠ m → b ≠ m + 1 → b ≠ m + 7 → Same N N' b) ∧ mI N' m 3 = mI N m 3 ∧ mI N' m 7 = mI N m 7
theorem NF.trans {M M1 M2 : SM} {m : Nat} (h : NF M M1 m) (g : NF M1 M2 m) : NF M M2 m := ⟨g.1.trans h.1, fun b h0 h1 h7 => ⟨(g.2.1 b h0 h1 h7).1.trans (h.2.1 b h0 h1 h7).1, (g.2.1 b h0 h1 h7).2.trans (h.2.1 b h0 h1 h7).2⟩, g.2.2.1.trans h.2.2.1, g.2.2.2.trans h.2.2.2⟩
