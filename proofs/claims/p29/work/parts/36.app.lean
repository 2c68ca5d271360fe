/-! as in whole -/
theorem fNd_b {K F A : Nat → Int32} {n : Nat} (hn : n ≤ 40) {kd f a : Int32} {k : Nat} (h : bt (fNd K F A n kd f a) k = true) : k < n := by
  have lb : ∀ p : Nat → Bool, bt (lastB p n) k = true → k < n := by
    intro p hp
    rcases lastI_or p n with ⟨-, e⟩ | ⟨j, hj, -, -, e⟩
    · rw [e, bt_0] at hp; cases hp
    · rw [e, bt_bE (by omega)] at hp
      simp only [decide_eq_true_eq] at hp
      omega
  unfold fNd at h
  dsimp only at h
  split at h
  · rw [bt_or, Bool.or_eq_true] at h
    rcases h with h | h
    · split at h
      · rw [bt_or, Bool.or_eq_true] at h
        rcases h with h | h
        · exact lb _ h
        · exact lb _ h
      · exact lb _ h
    · exact lb _ h
  · split at h
    · rw [bt_or, Bool.or_eq_true] at h
      rcases h with h | h
      · exact lb _ h
      · exact lb _ h
    · exact lb _ h
theorem wrW_ne {w : Nat → Int32} {n j : Nat} {kd f a : Int32} (h0 : j ≠ 0) (h : j < 2 + 8 * n ∨ 2 + 8 * n + 8 ≤ j) : wrW w n kd f a j = w j := by
  unfold wrW
  rw [va_up_ne _ _ h0, wr4_ne (by omega) (by omega), wr1_ne h]
theorem wrW_at {w : Nat → Int32} {n p : Nat} {kd f a : Int32} (hp : p < 6) : wrW w n kd f a (2 + 8 * n + p) = if p = 0 then kd else if p = 1 then f else if p = 2 then a else if p = 3 then 0 else -6 := by
  unfold wrW
  rw [va_up_ne _ _ (by omega), wr4_ne (by omega) (by omega)]
  unfold wr1
  match p, hp with
  | 0, _ => rw [va_up_ne _ _ (by omega), va_up_ne _ _ (by omega), va_up_ne _ _ (by omega), va_up_ne _ _ (by omega), va_up_ne _ _ (by omega), va_up_ne _ _ (by omega), va_up_ne _ _ (by omega), va_up_self]; rfl
  | 1, _ => rw [va_up_ne _ _ (by omega), va_up_ne _ _ (by omega), va_up_ne _ _ (by omega), va_up_ne _ _ (by omega), va_up_ne _ _ (by omega), va_up_ne _ _ (by omega), va_up_self]; rfl
  | 2, _ => rw [va_up_ne _ _ (by omega), va_up_ne _ _ (by omega), va_up_ne _ _ (by omega), va_up_ne _ _ (by omega), va_up_ne _ _ (by omega), va_up_self]; rfl
  | 3, _ => rw [va_up_ne _ _ (by omega), va_up_ne _ _ (by omega), va_up_ne _ _ (by omega), va_up_ne _ _ (by omega), va_up_self]; rfl
  | 4, _ => rw [va_up_ne _ _ (by omega), va_up_ne _ _ (by omega), va_up_ne _ _ (by omega), va_up_self]; rfl
  | 5, _ => rw [va_up_ne _ _ (by omega), va_up_ne _ _ (by omega), va_up_self]; rfl
theorem LRel_app {K F A : Nat → Int32} {nd ln : Nat → Int64} {lost : Int64} {w : Nat → Int32} {n kd f : Nat} {a : Int32} (hL : LRel K F A nd ln lost w n) (hn : n < 40) (ho : okE kd f a) {x : Int64} (hx : x = fNd K F A n (nI kd) (nI f) a) :
    LRel (va_up K n (nI kd)) (va_up F n (nI f)) (va_up A n a) (va_up nd n x) (va_up ln n (orL x ln n)) lost (wrW w n (nI kd) (nI f) a) (n + 1) := by
  obtain ⟨n40, w0, ok, row, lst, lsn, nds, ndb, lns⟩ := hL
  have hxn : x = rNd (wrW w n (nI kd) (nI f) a) n := by
    unfold rNd wrW
    rw [va_up_ne _ _ (by omega), va_up_ne _ _ (by omega), wr4_dp (by omega), hx]
    exact fNd_cong (fun e he => (row e he).1.symm) (fun e he => (row e he).2.1.symm) (fun e he => (row e he).2.2.symm) _ _ _
  have lt : ∀ e, e < n + 1 → e < n ∨ e = n := fun e he => by omega
  refine ⟨by omega, va_up_self _ _ _, ?_, ?_, ?_, ?_, ?_, ?_, ?_⟩
  · intro e he
    rcases lt e he with q | rfl
    · have := ok e q
      unfold EntOK at this ⊢
      rw [va_up_ne _ _ (by omega), va_up_ne _ _ (by omega), va_up_ne _ _ (by omega)]
      exact this
    · unfold EntOK
      rw [va_up_self, va_up_self, va_up_self]
      have hk := ho.1
      have hf := ho.2.1
      rw [nI_c (show kd < 2147483648 by omega), nI_c (show f < 2147483648 by omega)]
      exact ⟨ho, rfl, rfl⟩
  · intro e he
    rcases lt e he with q | rfl
    · rw [va_up_ne _ _ (by omega), va_up_ne _ _ (by omega), va_up_ne _ _ (by omega), wrW_ne (by omega) (by omega), wrW_ne (by omega) (by omega), wrW_ne (by omega) (by omega)]
      exact row e q
    · rw [va_up_self, va_up_self, va_up_self]
      exact ⟨wrW_at (p := 0) (by decide), wrW_at (p := 1) (by decide), wrW_at (p := 2) (by decide)⟩
  · intro e he
    rcases lt e he with q | rfl
    · rw [wrW_ne (by omega) (by omega)]
      exact lst e q
    · rw [wrW_at (p := 3) (by decide), lsn e (Nat.le_refl _)]
      rfl
  · intro e he
    exact lsn e (by omega)
  · intro e he
    rcases lt e he with q | rfl
    · rw [va_up_ne _ _ (by omega), ← nds e q]
      unfold rNd
      rw [wrW_ne (by omega) (by omega), wrW_ne (by omega) (by omega)]
    · rw [va_up_self, hxn]
  · intro e he k hk
    rcases lt e he with q | rfl
    · rw [va_up_ne _ _ (by omega)] at hk
      exact ndb e q k hk
    · rw [va_up_self, hx] at hk
      exact fNd_b (by omega) hk
  · intro e he
    rcases lt e he with q | rfl
    · rw [va_up_ne _ _ (by omega), va_up_ne _ _ (by omega), lns e q]
      exact orL_cong (fun k hk => by rw [va_up_ne _ _ (by omega)])
    · rw [va_up_self, va_up_self]
      exact orL_cong (fun k hk => by rw [va_up_ne _ _ (by omega)])
theorem RRel_app {rp rf : Int64} {ro re D V w : Nat → Int32} {rounds wid : Int32} {n R : Nat} {kd f a : Int32} (hR : RRel rp rf ro re rounds wid D V w n R) (hn : n < 40) (hb : R < 2147483648) : RRel rp rf ro re rounds wid D V (wrW w n kd f a) (n + 1) R := by
  obtain ⟨w1, rds, rr, fro, rob, rps, rfs, wds, tr, ti⟩ := hR
  obtain ⟨f1, f2⟩ := fro n (Nat.le_refl _) hn
  have lt : ∀ e, e < n + 1 → e < n ∨ e = n := fun e he => by omega
  refine ⟨(wrW_ne (by decide) (Or.inl (by omega))).trans w1, rds, ?_, fun e h1 h2 => fro e (by omega) h2, ?_, ?_, ?_, ?_, ?_, ti⟩
  · intro e he
    rcases lt e he with q | rfl
    · rw [wrW_ne (by omega) (by omega), wrW_ne (by omega) (by omega)]
      exact rr e q
    · rw [f1, f2]
      exact ⟨wrW_at (p := 4) (by decide), wrW_at (p := 5) (by decide), fun _ => rfl⟩
  · intro e he
    rcases lt e he with q | rfl
    · exact rob e q
    · exact Or.inl f1
  · intro e
    rw [rps]
    by_cases q : e = n
    · subst q; simp [f1]
    · have : (e < n + 1) = (e < n) := propext (by omega)
      simp only [this]
  · intro e
    rw [rfs]
    by_cases q : e = n
    · subst q; simp [f2]
    · have : (e < n + 1) = (e < n) := propext (by omega)
      simp only [this]
  · rw [wds]
    congr 1
    have : ∀ i, i ≤ R → wdN ro n i = wdN ro (n + 1) i := by
      intro i
      induction i with
      | zero => intro _; rfl
      | succ i ih =>
        intro hi
        unfold wdN
        rw [ih (by omega)]
        congr 1
        have hz : (ro n = nI i) = False := by
          rw [f1]
          rcases n_m6 i with z | z
          · exact eq_false (fun e => of_eq_false z e.symm)
          · omega
        conv => rhs; unfold cnt
        simp only [hz, decide_false, Bool.false_eq_true, ↓reduceIte, Nat.add_zero]
    exact this R (Nat.le_refl _)
  · intro g hg
    rw [wrW_ne (by omega) (by omega), wrW_ne (by omega) (by omega), wrW_ne (by omega) (by omega)]
    exact tr g hg
