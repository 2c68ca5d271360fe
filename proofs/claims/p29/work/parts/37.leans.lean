/-! as in whole -/
theorem lean_one {nd g g' : Nat → Int64} {n : Nat} (h : ∀ e, e < n → g e = orL (nd e) g e) (h' : ∀ e, e < n → g' e = orL (nd e) g' e) : ∀ e, e < n → g e = g' e := by
  intro e
  induction e using Nat.strongRecOn with
  | _ e ih =>
    intro he
    rw [h e he, h' e he]
    exact orL_cong (fun k hk => ih k hk (by omega))
theorem orL_b {x : Int64} {g : Nat → Int64} {i : Nat} : ∀ n, bt (orL x g n) i = true → bt x i = true ∨ ∃ k, k < n ∧ bt (g k) i = true := by
  intro n
  induction n with
  | zero => intro h; exact Or.inl h
  | succ n ih =>
    intro h
    unfold orL at h
    split at h
    · rw [bt_or, Bool.or_eq_true] at h
      rcases h with h | h
      · rcases ih h with h | ⟨k, hk, h⟩
        · exact Or.inl h
        · exact Or.inr ⟨k, by omega, h⟩
      · exact Or.inr ⟨n, by omega, h⟩
    · rcases ih h with h | ⟨k, hk, h⟩
      · exact Or.inl h
      · exact Or.inr ⟨k, by omega, h⟩
theorem lns_b {K F A : Nat → Int32} {nd ln : Nat → Int64} {lost : Int64} {w : Nat → Int32} {n : Nat} (hL : LRel K F A nd ln lost w n) : ∀ e, e < n → ∀ k, bt (ln e) k = true → k < e := by
  obtain ⟨n40, w0, ok, row, lst, lsn, nds, ndb, lns⟩ := hL
  intro e
  induction e using Nat.strongRecOn with
  | _ e ih =>
    intro he k hk
    rw [lns e he] at hk
    rcases orL_b e hk with h | ⟨j, hj, h⟩
    · exact ndb e he k h
    · have := ih j hj (by omega) k h
      omega
