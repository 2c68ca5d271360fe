/-! as in whole -/
/-- the row says the state of a round's making -/
def RInv (w : Nat → Int32) (n : Nat) (s : RS) (u : Nat → Int32) : Prop :=
  (∀ j, j < 322 → (∀ e, e < n → j ≠ 2 + 8 * e + 4 ∧ j ≠ 2 + 8 * e + 5) → u j = w j) ∧ (∀ e, e < n → u (2 + 8 * e + 4) = s.2.1 e ∧ u (2 + 8 * e + 5) = s.2.2.1 e) ∧ TR u s.2.2.2.1 s.2.2.2.2 ∧ TI s.2.2.2.1 s.2.2.2.2
theorem TR_lo {u D V : Nat → Int32} (h : TR u D V) {j : Nat} (hj : j < 322) (v : Int32) : TR (va_up u j v) D V := by
  intro f hf
  obtain ⟨t1, t2, t3⟩ := h f hf
  refine ⟨?_, ?_, ?_⟩ <;> rw [va_up_ne _ _ (by omega)] <;> assumption
theorem rrS_no {K F A : Nat → Int32} {rd : Int64} {rds : Int32} {s0 : RS} {k : Nat} (h : bt rd k = false) : rrS K F A rd rds s0 (k + 1) = rrS K F A rd rds s0 k := by
  show (if bt rd k = true then _ else _) = _
  rw [h]
  rfl
theorem rrS_yes {K F A : Nat → Int32} {rd : Int64} {rds : Int32} {s0 : RS} {k : Nat} (h : bt rd k = true) : rrS K F A rd rds s0 (k + 1) =
    (let s := rrS K F A rd rds s0 k
     let x := rfs s.2.2.2.1 s.2.2.2.2 (K k).toNatClampNeg (F k).toNatClampNeg (A k)
     (if x = 0 then s.1 else s.1 ||| bE k, va_up s.2.1 k rds, va_up s.2.2.1 k x, if x = 0 then pD s.2.2.2.1 (K k).toNatClampNeg (F k).toNatClampNeg (A k) else s.2.2.2.1, if x = 0 then pV s.2.2.2.2 (K k).toNatClampNeg (F k).toNatClampNeg (A k) else s.2.2.2.2)) := by
  show (if bt rd k = true then _ else _) = _
  rw [if_pos h]
