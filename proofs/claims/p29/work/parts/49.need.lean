/-! as in whole -/
theorem cnt_40 {x : Int64} {n : Nat} (h40 : n ≤ 40) (h : ∀ k, bt x k = true → k < n) : cnt (bt x) 64 = cnt (bt x) 40 := cnt_more _ (by omega) (fun i h1 _ => by
  cases q : bt x i with
  | false => rfl
  | true => have := h i q; omega)
theorem LRel_need {K F A : Nat → Int32} {nd ln : Nat → Int64} {lost : Int64} {w : Nat → Int32} {n e k : Nat} (h : LRel K F A nd ln lost w n) (he : e < n) (hk : k < e) : LRel K F A (va_up nd e (nd e ||| bE k)) (leanT (va_up nd e (nd e ||| bE k)) ln e (n - e)) lost (dpW w e k) n := by
  obtain ⟨n40, w0, ok, row, lst, lsn, nds, ndb, lns⟩ := h
  have far : ∀ x p, p < 6 → dpW w e k (2 + 8 * x + p) = w (2 + 8 * x + p) := fun x p hp => dpW_ne (by omega) (by omega)
  refine ⟨n40, (dpW_ne (by omega) (by omega)).trans w0, ok, ?_, ?_, lsn, ?_, ?_, ?_⟩
  · intro x hx
    obtain ⟨a, b, c⟩ := row x hx
    exact ⟨(far x 0 (by decide)).trans a, (far x 1 (by decide)).trans b, (far x 2 (by decide)).trans c⟩
  · intro x hx
    exact (far x 3 (by decide)).trans (lst x hx)
  · intro x hx
    by_cases q : x = e
    · subst q
      rw [va_up_self]
      unfold rNd
      rw [dpW_dp (by omega), ← nds x hx]
      rfl
    · rw [va_up_ne _ _ q, ← nds x hx]
      unfold rNd
      rw [dpW_ne (by omega) (by omega), dpW_ne (by omega) (by omega)]
  · intro x hx j hj
    by_cases q : x = e
    · subst q
      rw [va_up_self, bt_or, bt_bE (by omega), Bool.or_eq_true, decide_eq_true_eq] at hj
      rcases hj with hj | hj
      · exact ndb x hx j hj
      · omega
    · rw [va_up_ne _ _ q] at hj
      exact ndb x hx j hj
  · intro x hx
    by_cases q : e ≤ x
    · exact leanT_at (n - e) x q (by omega)
    · rw [leanT_out (n - e) x (by omega), va_up_ne _ _ (by omega), lns x hx]
      exact orL_cong (fun j hj => by rw [leanT_out (n - e) j (by omega)])
