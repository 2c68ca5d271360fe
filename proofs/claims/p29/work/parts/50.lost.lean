/-! as in whole -/
theorem orpB_b {g : Nat → Int64} {n k : Nat} {x : Int64} (h40 : n ≤ 40) (h : bt (orpB g n x) k = true) : k < n := by
  unfold orpB at h
  rw [bt_and, bt_mk _ _ _ (by omega)] at h
  simp only [Bool.and_eq_true, decide_eq_true_eq] at h
  exact h.1.1
theorem LRel_lost {K F A : Nat → Int32} {nd ln : Nat → Int64} {lost : Int64} {w : Nat → Int32} {n e : Nat} {b : Bool} (h : LRel K F A nd ln lost w n) (he : e < n) (hb : bt lost e = b) : LRel K F A nd ln (lost ^^^ bE e) (va_up w (2 + 8 * e + 3) (if b = true then 0 else 1)) n := by
  obtain ⟨n40, w0, ok, row, lst, lsn, nds, ndb, lns⟩ := h
  refine ⟨n40, (va_up_ne _ _ (by omega)).trans w0, ok, ?_, ?_, ?_, ?_, ndb, lns⟩
  · intro x hx
    rw [va_up_ne _ _ (by omega), va_up_ne _ _ (by omega), va_up_ne _ _ (by omega)]
    exact row x hx
  · intro x hx
    rw [bt_xor, bt_bE (by omega)]
    by_cases q : x = e
    · subst q
      rw [va_up_self, hb]
      cases b <;> simp
    · rw [va_up_ne _ _ (by omega), lst x hx]
      simp [q]
  · intro x hx
    rw [bt_xor, bt_bE (by omega), lsn x hx]
    simp [show ¬ x = e by omega]
  · intro x hx
    rw [← nds x hx]
    unfold rNd
    rw [va_up_ne _ _ (by omega), va_up_ne _ _ (by omega)]
