/-! as in whole -/
/-- a chain of directories comes to its end within so many steps -/
def trm (D : Nat → Int32) : Nat → Int32 → Prop
  | 0, _ => False
  | n + 1, a => a = -6 ∨ (isF a = true ∧ trm D n (D a.toNatClampNeg))
/-- the reference's row says the tree's rows -/
def TR (w D V : Nat → Int32) : Prop := ∀ f, f < 16 → w (322 + 3 * f) = (if V f = -6 then 0 else 1) ∧ w (322 + 3 * f + 1) = D f ∧ w (322 + 3 * f + 2) = V f
def TI (D V : Nat → Int32) : Prop := D 0 = -6 ∧ V 0 = 0 ∧ (∀ f, f < 16 → V f = -6 → D f = -6) ∧ (∀ f, 0 < f → f < 16 → ¬ V f = -6 → ∃ p, p < 16 ∧ D f = nI p ∧ ¬ V p = -6) ∧ (∀ f, f < 16 → trm D 17 (nI f))
theorem nI_m6 {k : Nat} (hk : k < 16) : (nI k = -6) = False := eq_false ((by decide +kernel : ∀ k, k < 16 → ¬ nI k = -6) k hk)
theorem nI_inj {a b : Nat} (ha : a < 2147483648) (hb : b < 2147483648) : (nI a = nI b) = (a = b) := propext (nI_eq ha hb)
