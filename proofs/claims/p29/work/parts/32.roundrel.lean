/-! as in whole -/
theorem wdN_le (ro : Nat → Int32) (n : Nat) : ∀ R, wdN ro n R ≤ n
  | 0 => Nat.zero_le _
  | R + 1 => by
    unfold wdN
    have := wdN_le ro n R
    have := cnt_le (fun e => decide (ro e = nI R)) n
    omega
theorem wdN_cong {ro ro' : Nat → Int32} {n : Nat} : ∀ {R : Nat}, (∀ i, i < R → ∀ e, e < n → (ro e = nI i) = (ro' e = nI i)) → wdN ro n R = wdN ro' n R
  | 0, _ => rfl
  | R + 1, h => by
    unfold wdN
    rw [wdN_cong (fun i hi => h i (by omega)), cnt_cong (q := fun e => decide (ro' e = nI R)) (fun e he => by simp only [h R (by omega) e he])]
theorem n_m6 (k : Nat) : (nI k = -6) = False ∨ 2147483648 ≤ k := by
  by_cases h : k < 2147483648
  · refine Or.inl (eq_false fun e => ?_)
    have := nI_pos h
    rw [e] at this
    exact this (by decide)
  · exact Or.inr (by omega)
theorem cnt_rd {w : Nat → Int32} {n : Nat} (h : n ≤ 40) : cnt (bt (rRd w n)) 64 = cnt (bt (rRd w n)) n ∧ cnt (bt (rRd w n)) 40 = cnt (bt (rRd w n)) n := by
  have z : ∀ i, n ≤ i → bt (rRd w n) i = false := fun i hi => by
    unfold rRd
    rw [bt_mk _ _ _ (by omega)]
    simp [show ¬ i < n by omega]
  exact ⟨cnt_more _ (by omega) (fun i h1 _ => z i h1), cnt_more _ (by omega) (fun i h1 _ => z i h1)⟩
theorem LR_keep {K F A : Nat → Int32} {nd ln : Nat → Int64} {lost : Int64} {w u : Nat → Int32} {n : Nat} (hL : LRel K F A nd ln lost w n) (h0 : u 0 = w 0) (hk : ∀ e, e < n → ∀ p, p < 8 → p ≠ 4 → p ≠ 5 → u (2 + 8 * e + p) = w (2 + 8 * e + p)) : LRel K F A nd ln lost u n := by
  obtain ⟨n40, w0, ok, row, lst, lsn, nds, ndb, lns⟩ := hL
  refine ⟨n40, h0.trans w0, ok, ?_, ?_, lsn, ?_, ndb, lns⟩
  · intro e he
    obtain ⟨a, b, c⟩ := row e he
    exact ⟨(hk e he 0 (by decide) (by decide) (by decide)).trans a, (hk e he 1 (by decide) (by decide) (by decide)).trans b, (hk e he 2 (by decide) (by decide) (by decide)).trans c⟩
  · intro e he
    exact (hk e he 3 (by decide) (by decide) (by decide)).trans (lst e he)
  · intro e he
    unfold rNd
    rw [hk e he 6 (by decide) (by decide) (by decide), hk e he 7 (by decide) (by decide) (by decide)]
    exact nds e he
theorem round_rel {K F A : Nat → Int32} {nd ln : Nat → Int64} {lost rp rf : Int64} {ro re D V w W : Nat → Int32} {rounds wid : Int32} {n R : Nat} {s : RS} (hL : LRel K F A nd ln lost w n) (hR : RRel rp rf ro re rounds wid D V w n R) (hb : R + 1 < 2147483648)
    (hs : s = rrS K F A (rRd w n) rounds (rf, ro, re, D, V) n) (hW : RInv w n s W) :
    LRel K F A nd ln lost (va_up W 1 (w 1 + 1)) n ∧ RRel (rp ||| rRd w n) s.1 s.2.1 s.2.2.1 (rounds + 1) (if wid < nI (cnt (bt (rRd w n)) 64) then nI (cnt (bt (rRd w n)) 64) else wid) s.2.2.2.1 s.2.2.2.2 (va_up W 1 (w 1 + 1)) n (R + 1) := by
  have n40 := hL.1
  have hc := cnt_rd (w := w) n40
  have hrd : ∀ e, bt (rRd w n) e = true → e < n ∧ ro e = -6 := by
    intro e he
    unfold rRd at he
    rw [bt_mk _ _ _ (by omega)] at he
    simp only [Bool.and_eq_true, decide_eq_true_eq] at he
    obtain ⟨h1, -, h2, -⟩ := he
    refine ⟨h1, ?_⟩
    rw [← (hR.2.2.1 e h1).1]
    exact h2
  generalize rRd w n = rd at *
  have s1 : ∀ e, s.2.1 e = if e < n ∧ bt rd e = true then rounds else ro e := fun e => by rw [hs]; exact rrS_1 n e
  have s2 : ∀ e, if e < n ∧ bt rd e = true then ∃ D V kd f a, s.2.2.1 e = rfs D V kd f a else s.2.2.1 e = re e := fun e => by rw [hs]; exact rrS_2 n e
  have s3 : ∀ e, bt s.1 e = (bt rf e || (decide (e < n) && bt rd e && !decide (s.2.2.1 e = 0))) := fun e => by rw [hs]; exact rrS_3 n (by omega) e
  obtain ⟨w1, rds, rr, fro, rob, rps, rfs, wds, tr, ti⟩ := hR
  have hm6 : (nI R = -6) = False := by
    rcases n_m6 R with h | h
    · exact h
    · omega
  obtain ⟨i1, i2, i3, i4⟩ := hW
  refine ⟨LR_keep hL ?_ ?_, ?_, ?_, ?_, ?_, ?_, ?_, ?_, ?_, ?_, i4⟩
  · rw [va_up_ne _ _ (by decide)]
    exact i1 0 (by decide) (fun e he => ⟨by omega, by omega⟩)
  · intro e he p hp p4 p5
    rw [va_up_ne _ _ (by omega)]
    exact i1 _ (by omega) (fun e' he' => ⟨by omega, by omega⟩)
  · rw [va_up_self, w1, n1]
  · rw [rds, n1]
  · intro e he
    rw [va_up_ne _ _ (by omega), va_up_ne _ _ (by omega)]
    refine ⟨(i2 e he).1, (i2 e he).2, ?_⟩
    have a := s1 e
    have b := s2 e
    by_cases q : e < n ∧ bt rd e = true
    · rw [if_pos q] at a
      intro h
      rw [a, rds] at h
      exact absurd h (of_eq_false hm6)
    · rw [if_neg q] at a b
      rw [a, b]
      exact (rr e he).2.2
  · intro e h1 h2
    have a := s1 e
    have b := s2 e
    rw [if_neg (by omega)] at a b
    rw [a, b]
    exact fro e h1 h2
  · intro e he
    have a := s1 e
    by_cases q : e < n ∧ bt rd e = true
    · rw [if_pos q] at a
      exact Or.inr ⟨R, by omega, a.trans rds⟩
    · rw [if_neg q] at a
      rw [a]
      rcases rob e he with h | ⟨i, hi, h⟩
      · exact Or.inl h
      · exact Or.inr ⟨i, by omega, h⟩
  · intro e
    rw [bt_or, rps, s1]
    cases hq : bt rd e with
    | true =>
      have := hrd e hq
      simp [this.1, rds, hm6]
    | false => simp
  · intro e
    rw [s3]
    have b := s2 e
    cases hq : bt rd e with
    | true =>
      have h := hrd e hq
      rw [if_pos ⟨h.1, hq⟩] at b
      rw [rfs e, (rr e h.1).2.2 h.2]
      simp only [rfs_x b, h.1, decide_true, Bool.true_and]
      simp
    | false =>
      rw [if_neg (by simp [hq])] at b
      rw [b, rfs e]
      simp
  · have hx : wdN s.2.1 n R = wdN ro n R := wdN_cong (fun i hi e he => by
      rw [s1]
      split
      · rename_i q
        rw [(hrd e q.2).2, rds, nI_inj (by omega) (by omega)]
        refine propext ⟨fun h => by omega, fun h => ?_⟩
        rcases n_m6 i with z | z
        · exact absurd h.symm (of_eq_false z)
        · omega
      · rfl)
    have hy : cnt (fun e => decide (s.2.1 e = nI R)) n = cnt (bt rd) n := cnt_cong (fun e he => by
      rw [s1]
      cases hq : bt rd e with
      | true => simp [he, rds]
      | false =>
        simp only [Bool.false_eq_true, and_false, ↓reduceIte, decide_eq_false_iff_not]
        intro h
        rcases rob e he with z | ⟨i, hi, z⟩
        · rw [z] at h
          exact absurd h.symm (of_eq_false hm6)
        · rw [z, nI_inj (by omega) (by omega)] at h
          omega)
    unfold wdN
    rw [hx, hy, wds, hc.1]
    have l1 := wdN_le ro n R
    have l2 := cnt_le (bt rd) n
    have e := i_lt (a := wdN ro n R) (b := cnt (bt rd) n) (by omega) (by omega)
    simp only [e]
    by_cases q : wdN ro n R < cnt (bt rd) n
    · rw [if_pos q, Nat.max_eq_right (by omega)]
    · rw [if_neg q, Nat.max_eq_left (by omega)]
  · exact TR_lo i3 (by decide) _
