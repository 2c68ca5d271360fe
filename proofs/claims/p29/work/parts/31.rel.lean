/-! as in whole -/
/-- the most entries of one round -/
def wdN (ro : Nat → Int32) (n : Nat) : Nat → Nat
  | 0 => 0
  | i + 1 => max (wdN ro n i) (cnt (fun e => decide (ro e = nI i)) n)
/-- the log's part -/
def LRel (K F A : Nat → Int32) (nd ln : Nat → Int64) (lost : Int64) (w : Nat → Int32) (n : Nat) : Prop :=
  n ≤ 40 ∧ w 0 = nI n ∧ (∀ e, e < n → EntOK K F A e) ∧ (∀ e, e < n → w (2 + 8 * e) = K e ∧ w (2 + 8 * e + 1) = F e ∧ w (2 + 8 * e + 2) = A e) ∧
  (∀ e, e < n → w (2 + 8 * e + 3) = if bt lost e = true then 1 else 0) ∧ (∀ e, n ≤ e → bt lost e = false) ∧
  (∀ e, e < n → rNd w e = nd e) ∧ (∀ e, e < n → ∀ k, bt (nd e) k = true → k < e) ∧ (∀ e, e < n → ln e = orL (nd e) ln e)
/-- the replay's part -/
def RRel (rp rf : Int64) (ro re : Nat → Int32) (rounds wid : Int32) (D V : Nat → Int32) (w : Nat → Int32) (n R : Nat) : Prop :=
  w 1 = nI R ∧ rounds = nI R ∧ (∀ e, e < n → w (2 + 8 * e + 4) = ro e ∧ w (2 + 8 * e + 5) = re e ∧ (ro e = -6 → re e = -6)) ∧ (∀ e, n ≤ e → e < 40 → ro e = -6 ∧ re e = -6) ∧
  (∀ e, e < n → ro e = -6 ∨ ∃ i, i < R ∧ ro e = nI i) ∧ (∀ e, bt rp e = (decide (e < n) && !decide (ro e = -6))) ∧ (∀ e, bt rf e = (decide (e < n) && !decide (re e ≤ 0))) ∧
  wid = nI (wdN ro n R) ∧ TR w D V ∧ TI D V
/-- .. as memory holds them: a log at h, a replay at r -/
def LR (M : SM) (h : Nat) (w : Nat → Int32) (n : Nat) : Prop := mI M h 0 = nI n ∧ LRel (mI M (h + 1)) (mI M (h + 2)) (mI M (h + 3)) (mJ M (h + 4)) (mJ M (h + 5)) (mJ M h 1) w n
def RR (M : SM) (r : Nat) (w : Nat → Int32) (n R : Nat) : Prop := RRel (mJ M r 0) (mJ M r 1) (mI M (r + 1)) (mI M (r + 2)) (mI M r 2) (mI M r 3) (mI M (r + 4)) (mI M (r + 5)) w n R
theorem rfs_b (D V : Nat → Int32) (kd f : Nat) (a : Int32) : (¬ rfs D V kd f a ≤ 0) = ¬ rfs D V kd f a = 0 := by
  unfold rfs
  split
  · simp
  · split
    · simp
    · split
      · simp
      · split
        · simp
        · split <;> simp
theorem rfs_x {x : Int32} (h : ∃ D V kd f a, x = rfs D V kd f a) : (x ≤ 0) = (x = 0) := by
  obtain ⟨D, V, kd, f, a, rfl⟩ := h
  have := rfs_b D V kd f a
  by_cases q : rfs D V kd f a = 0
  · simp [q]
  · simp only [q, not_false_eq_true, eq_iff_iff, iff_true] at this
    simp [q, this]
/-- what a round's making leaves -/
theorem rrS_1 {K F A : Nat → Int32} {rd : Int64} {rds : Int32} {s0 : RS} : ∀ (k : Nat) (e : Nat), (rrS K F A rd rds s0 k).2.1 e = if e < k ∧ bt rd e = true then rds else s0.2.1 e := by
  intro k
  induction k with
  | zero => intro e; rw [if_neg (by omega)]; rfl
  | succ k ih =>
    intro e
    cases hb : bt rd k with
    | false =>
      rw [rrS_no hb, ih]
      by_cases q : e = k
      · subst q; simp [hb]
      · have : (e < k + 1) = (e < k) := propext (by omega)
        simp only [this]
    | true =>
      rw [rrS_yes hb]
      show va_up (rrS K F A rd rds s0 k).2.1 k rds e = _
      by_cases q : e = k
      · subst q; rw [va_up_self]; simp [hb]
      · rw [va_up_ne _ _ q, ih]
        have : (e < k + 1) = (e < k) := propext (by omega)
        simp only [this]
theorem rrS_2 {K F A : Nat → Int32} {rd : Int64} {rds : Int32} {s0 : RS} : ∀ (k : Nat) (e : Nat), if e < k ∧ bt rd e = true then ∃ D V kd f a, (rrS K F A rd rds s0 k).2.2.1 e = rfs D V kd f a else (rrS K F A rd rds s0 k).2.2.1 e = s0.2.2.1 e := by
  intro k
  induction k with
  | zero => intro e; rw [if_neg (by omega)]; rfl
  | succ k ih =>
    intro e
    have ih := ih e
    cases hb : bt rd k with
    | false =>
      rw [rrS_no hb]
      by_cases q : e = k
      · subst q
        rw [if_neg (by omega)] at ih
        rw [if_neg (by simp [hb])]
        exact ih
      · have : (e < k + 1) = (e < k) := propext (by omega)
        simp only [this]
        exact ih
    | true =>
      rw [rrS_yes hb]
      dsimp only
      by_cases q : e = k
      · subst q
        rw [if_pos ⟨by omega, hb⟩, va_up_self]
        exact ⟨_, _, _, _, _, rfl⟩
      · rw [va_up_ne _ _ q]
        have : (e < k + 1) = (e < k) := propext (by omega)
        simp only [this]
        exact ih
theorem rrS_3 {K F A : Nat → Int32} {rd : Int64} {rds : Int32} {s0 : RS} : ∀ (k : Nat), k ≤ 64 → ∀ (e : Nat), bt (rrS K F A rd rds s0 k).1 e = (bt s0.1 e || (decide (e < k) && bt rd e && !decide ((rrS K F A rd rds s0 k).2.2.1 e = 0))) := by
  intro k
  induction k with
  | zero => intro _ e; simp [rrS]
  | succ k ih =>
    intro hk e
    have ih := ih (by omega) e
    cases hb : bt rd k with
    | false =>
      rw [rrS_no hb, ih]
      by_cases q : e = k
      · subst q; simp [hb]
      · have : (e < k + 1) = (e < k) := propext (by omega)
        simp only [this]
    | true =>
      rw [rrS_yes hb]
      dsimp only
      by_cases q : e = k
      · subst q
        simp only [va_up_self]
        simp only [Nat.lt_irrefl, decide_false, Bool.false_and, Bool.or_false] at ih
        split
        · rename_i h0
          rw [ih]
          simp [h0]
        · rename_i h0
          rw [bt_or, ih, bt_bE (by omega)]
          simp [h0, hb]
      · simp only [va_up_ne _ _ q]
        have : (e < k + 1) = (e < k) := propext (by omega)
        simp only [this]
        split
        · exact ih
        · rw [bt_or, ih, bt_bE (by omega)]
          simp [q]
/-- the same ones are ready -/
theorem rd_eq {K F A : Nat → Int32} {nd ln : Nat → Int64} {lost rp rf : Int64} {ro re D V w : Nat → Int32} {rounds wid : Int32} {n R : Nat} (hL : LRel K F A nd ln lost w n) (hR : RRel rp rf ro re rounds wid D V w n R) : rdyB nd n lost rp = rRd w n := by
  obtain ⟨n40, w0, ok, row, lst, lsn, nds, ndb, lns⟩ := hL
  obtain ⟨w1, rds, rr, fro, rob, rps, rfs, wds, tr, ti⟩ := hR
  have hrp : rRp w n = rp := by
    apply bt_ext
    intro i hi
    unfold rRp
    rw [bt_mk _ _ _ (by omega), rps]
    by_cases q : i < n
    · rw [(rr i q).1]
    · simp [q]
  unfold rdyB rRd
  rw [hrp]
  refine mk_cong (fun e he => ?_)
  rw [nds e he, lst e he, (rr e he).1, bt_or, rps e]
  cases bt lost e <;> by_cases q : ro e = -6 <;> simp [he, q]
