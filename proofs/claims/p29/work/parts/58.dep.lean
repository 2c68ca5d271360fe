/-! as in whole -/
def dpI (x : Int64) (g : Nat → Nat) : Nat → Nat
  | 0 => 0
  | k + 1 => if bt x k = true ∧ dpI x g k ≤ g k then g k + 1 else dpI x g k
theorem dpI_cong {x : Int64} {g g' : Nat → Nat} : ∀ {n : Nat}, (∀ k, k < n → g k = g' k) → dpI x g n = dpI x g' n := by
  intro n
  induction n with
  | zero => intro _; rfl
  | succ n ih =>
    intro h
    unfold dpI
    rw [ih (fun k hk => h k (by omega)), h n (by omega)]
theorem dpI_ge {x : Int64} {g : Nat → Nat} : ∀ (n j : Nat), j < n → bt x j = true → g j + 1 ≤ dpI x g n := by
  intro n
  induction n with
  | zero => intro j hj; omega
  | succ n ih =>
    intro j hj hb
    unfold dpI
    by_cases q : j = n
    · subst q
      split
      · omega
      · rename_i h
        have : ¬ dpI x g j ≤ g j := fun z => h ⟨hb, z⟩
        omega
    · have := ih j (by omega) hb
      split
      · rename_i h
        omega
      · exact this
theorem dpI_ex {x : Int64} {g : Nat → Nat} : ∀ (n : Nat), dpI x g n = 0 ∨ ∃ j, j < n ∧ bt x j = true ∧ dpI x g n = g j + 1 := by
  intro n
  induction n with
  | zero => exact Or.inl rfl
  | succ n ih =>
    unfold dpI
    split
    · rename_i h
      exact Or.inr ⟨n, by omega, h.1, rfl⟩
    · rcases ih with h | ⟨j, a, b, c⟩
      · exact Or.inl h
      · exact Or.inr ⟨j, by omega, b, c⟩
def depT (nd : Nat → Int64) : Nat → (Nat → Nat)
  | 0 => fun _ => 0
  | m + 1 => va_up (depT nd m) m (dpI (nd m) (depT nd m) m)
theorem depT_at (nd : Nat → Int64) : ∀ (n e : Nat), e < n → depT nd n e = dpI (nd e) (depT nd n) e := by
  intro n
  induction n with
  | zero => intro e he; omega
  | succ n ih =>
    intro e he
    show va_up (depT nd n) n (dpI (nd n) (depT nd n) n) e = dpI (nd e) (va_up (depT nd n) n (dpI (nd n) (depT nd n) n)) e
    by_cases q : e = n
    · subst q
      rw [va_up_self]
      exact dpI_cong (fun k hk => by rw [va_up_ne _ _ (by omega)])
    · rw [va_up_ne _ _ q, ih e (by omega)]
      exact dpI_cong (fun k hk => by rw [va_up_ne _ _ (by omega)])
theorem depT_le (nd : Nat → Int64) : ∀ (n e : Nat), e < n → depT nd n e ≤ e := by
  intro n e
  induction e using Nat.strongRecOn with
  | _ e ih =>
    intro he
    rw [depT_at nd n e he]
    rcases dpI_ex (x := nd e) (g := depT nd n) e with h | ⟨j, hj, -, h⟩
    · omega
    · have := ih j hj (by omega)
      omega
theorem and0 {x y : Int64} : x &&& y = 0 ↔ ∀ k, bt x k = true → bt y k = false := by
  constructor
  · intro h k hk
    have := congrArg (fun z => bt z k) h
    simp only [bt_and, bt_0, hk, Bool.true_and] at this
    exact this
  · intro h
    apply bt_ext
    intro i _
    rw [bt_and, bt_0]
    cases q : bt x i with
    | false => rfl
    | true => rw [h i q]; rfl
theorem bt_lt {x : Int64} {k : Nat} (h : bt x k = true) : k < 64 := by
  rcases Nat.lt_or_ge k 64 with q | q
  · exact q
  · rw [bt_big q] at h; cases h
theorem orL_iff {x : Int64} {g : Nat → Int64} {i : Nat} : ∀ n, bt (orL x g n) i = true ↔ bt x i = true ∨ ∃ k, k < n ∧ bt x k = true ∧ bt (g k) i = true := by
  intro n
  induction n with
  | zero =>
    constructor
    · intro h; exact Or.inl h
    · rintro (h | ⟨k, hk, _⟩)
      · exact h
      · omega
  | succ n ih =>
    unfold orL
    split
    · rename_i hb
      rw [bt_or, Bool.or_eq_true, ih]
      constructor
      · rintro ((h | ⟨k, hk, h⟩) | h)
        · exact Or.inl h
        · exact Or.inr ⟨k, by omega, h⟩
        · exact Or.inr ⟨n, by omega, hb, h⟩
      · rintro (h | ⟨k, hk, h1, h2⟩)
        · exact Or.inl (Or.inl h)
        · by_cases q : k = n
          · subst q; exact Or.inr h2
          · exact Or.inl (Or.inr ⟨k, by omega, h1, h2⟩)
    · rename_i hb
      rw [ih]
      constructor
      · rintro (h | ⟨k, hk, h⟩)
        · exact Or.inl h
        · exact Or.inr ⟨k, by omega, h⟩
      · rintro (h | ⟨k, hk, h1, h2⟩)
        · exact Or.inl h
        · by_cases q : k = n
          · subst q; exact absurd h1 hb
          · exact Or.inr ⟨k, by omega, h1, h2⟩
/-- neither lost nor an orphan -/
def live (ln : Nat → Int64) (lost : Int64) (e : Nat) : Prop := bt lost e = false ∧ ln e &&& lost = 0
theorem live_dn {K F A : Nat → Int32} {nd ln : Nat → Int64} {lost : Int64} {w : Nat → Int32} {n e k : Nat} (h : LRel K F A nd ln lost w n) (he : e < n) (hl : live ln lost e) (hk : bt (nd e) k = true) : live ln lost k := by
  obtain ⟨n40, w0, ok, row, lst, lsn, nds, ndb, lns⟩ := h
  have hke := ndb e he k hk
  have h2 := and0.mp hl.2
  rw [lns e he] at h2
  refine ⟨h2 k ((orL_iff e).mpr (Or.inl hk)), and0.mpr (fun i hi => h2 i ((orL_iff e).mpr (Or.inr ⟨k, hke, hk, hi⟩)))⟩
theorem live_up {K F A : Nat → Int32} {nd ln : Nat → Int64} {lost : Int64} {w : Nat → Int32} {n e : Nat} (h : LRel K F A nd ln lost w n) (he : e < n) (h0 : bt lost e = false) (hl : ∀ k, bt (nd e) k = true → live ln lost k) : live ln lost e := by
  obtain ⟨n40, w0, ok, row, lst, lsn, nds, ndb, lns⟩ := h
  refine ⟨h0, and0.mpr (fun i hi => ?_)⟩
  rw [lns e he, orL_iff] at hi
  rcases hi with hi | ⟨k, hk, h1, h2⟩
  · exact (hl i hi).1
  · exact and0.mp (hl k h1).2 i h2
theorem mkR_ro (M : SM) (r h n e : Nat) : mI (mkR M r h n) (r + 1) e = if e < n ∧ bt (rdM M r h n) e = true then mI M r 2 else mI M (r + 1) e := by
  unfold mkR rrF
  rw [mI_sI, if_neg (by omega), mI_sJ, rMem_1, rrS_1]
  rfl
theorem mkR_rd (M : SM) (r h n : Nat) : mI (mkR M r h n) r 2 = mI M r 2 + 1 := by
  unfold mkR rrF
  rw [mI_sI, if_pos rfl, va_up_self]
theorem rdyB_b {nd : Nat → Int64} {n : Nat} {lost rp : Int64} (h40 : n ≤ 40) (e : Nat) : bt (rdyB nd n lost rp) e = true ↔ e < n ∧ bt lost e = false ∧ bt rp e = false ∧ ∀ k, bt (nd e) k = true → bt rp k = true := by
  unfold rdyB
  rw [bt_mk _ _ _ (by omega), bt_or]
  simp only [Bool.and_eq_true, decide_eq_true_eq, Bool.not_eq_true', Bool.or_eq_false_iff, and0]
  constructor
  · rintro ⟨a, ⟨b, c⟩, d⟩
    refine ⟨a, b, c, fun k hk => ?_⟩
    have := d k hk
    rw [bt_not _ (bt_lt hk)] at this
    simpa using this
  · rintro ⟨a, b, c, d⟩
    refine ⟨a, ⟨b, c⟩, fun k hk => ?_⟩
    rw [bt_not _ (bt_lt hk), d k hk]
    rfl
theorem rc_0 (M : SM) (r : Nat) : mI (rClr M r) r 2 = 0 ∧ mJ (rClr M r) r 0 = 0 ∧ ∀ e, e < 40 → mI (rClr M r) (r + 1) e = -6 := by
  have a1 : r + 1 ≠ r := by omega
  have b1 : r ≠ r + 1 := by omega
  have b2 : r ≠ r + 2 := by omega
  have b4 : r ≠ r + 4 := by omega
  have b5 : r ≠ r + 5 := by omega
  have c2 : r + 1 ≠ r + 2 := by omega
  have c4 : r + 1 ≠ r + 4 := by omega
  have c5 : r + 1 ≠ r + 5 := by omega
  unfold rClr
  simp only [mJ_sI, mJ_sJ, mI_sI, mI_sJ, ↓reduceIte, a1, b1, b2, b4, b5, c2, c4, c5, va_up_self, va_up_ne _ _ (show (2 : Nat) ≠ 3 by decide), va_up_ne _ _ (show (0 : Nat) ≠ 1 by decide)]
  exact ⟨trivial, trivial, fun e he => if_pos he⟩
/-- a replay begun anew, so many rounds -/
theorem dep_inv {M : SM} {h r n : Nat} {w : Nat → Int32} (hd : h + 6 ≤ r) (hL : LR M h w n) : ∀ i, i ≤ 40 → mI (itR (rClr M r) r h n i) r 2 = nI i ∧ (∀ e, e < n → (bt (mJ (itR (rClr M r) r h n i) r 0) e = true ↔ live (mJ M (h + 5)) (mJ M h 1) e ∧ depT (mJ M (h + 4)) n e < i)) ∧
    (∀ e, e < n → (live (mJ M (h + 5)) (mJ M h 1) e ∧ depT (mJ M (h + 4)) n e < i → mI (itR (rClr M r) r h n i) (r + 1) e = nI (depT (mJ M (h + 4)) n e)) ∧ (¬ (live (mJ M (h + 5)) (mJ M h 1) e ∧ depT (mJ M (h + 4)) n e < i) → mI (itR (rClr M r) r h n i) (r + 1) e = -6)) ∧
    (∀ e, bt (rdM (itR (rClr M r) r h n i) r h n) e = true ↔ e < n ∧ live (mJ M (h + 5)) (mJ M h 1) e ∧ depT (mJ M (h + 4)) n e = i) := by
  have n40 := hL.2.1
  have f0 := Fr_rClr M r
  have j4 : ∀ i, mJ (itR (rClr M r) r h n i) (h + 4) = mJ M (h + 4) := fun i => (itR_J (by omega) i).trans (f0.2 (h + 4) (by omega)).2
  have j0 : ∀ i, mJ (itR (rClr M r) r h n i) h = mJ M h := fun i => (itR_J (by omega) i).trans (f0.2 h (by omega)).2
  have hLL := hL.2
  obtain ⟨-, w0, ok, row, lst, lsn, nds, ndb, lns⟩ := hL.2
  have ready : ∀ i, (∀ e, e < n → (bt (mJ (itR (rClr M r) r h n i) r 0) e = true ↔ live (mJ M (h + 5)) (mJ M h 1) e ∧ depT (mJ M (h + 4)) n e < i)) → ∀ e, bt (rdM (itR (rClr M r) r h n i) r h n) e = true ↔ e < n ∧ live (mJ M (h + 5)) (mJ M h 1) e ∧ depT (mJ M (h + 4)) n e = i := by
    intro i hp e
    unfold rdM
    rw [j4, j0, rdyB_b n40]
    constructor
    · rintro ⟨a, b, c, d⟩
      have hlv : live (mJ M (h + 5)) (mJ M h 1) e := live_up hLL a b (fun k hk => ((hp k (by have := ndb e a k hk; omega)).mp (d k hk)).1)
      refine ⟨a, hlv, ?_⟩
      have c2 : ¬ depT (mJ M (h + 4)) n e < i := fun z => by
        have := (hp e a).mpr ⟨hlv, z⟩
        rw [c] at this; cases this
      have c3 : depT (mJ M (h + 4)) n e ≤ i := by
        rw [depT_at _ n e a]
        rcases dpI_ex (x := mJ M (h + 4) e) (g := depT (mJ M (h + 4)) n) e with z | ⟨k, hk, hb, z⟩
        · omega
        · have := ((hp k (by omega)).mp (d k hb)).2
          omega
      omega
    · rintro ⟨a, b, c⟩
      refine ⟨a, b.1, ?_, fun k hk => ?_⟩
      · cases q : bt (mJ (itR (rClr M r) r h n i) r 0) e with
        | false => rfl
        | true =>
          have := ((hp e a).mp q).2
          omega
      · have hke := ndb e a k hk
        refine (hp k (by omega)).mpr ⟨live_dn hLL a b hk, ?_⟩
        have := dpI_ge (g := depT (mJ M (h + 4)) n) e k hke hk
        rw [← depT_at _ n e a] at this
        omega
  intro i
  induction i with
  | zero =>
    intro _
    obtain ⟨a, b, c⟩ := rc_0 M r
    have hp : ∀ e, e < n → (bt (mJ (itR (rClr M r) r h n 0) r 0) e = true ↔ live (mJ M (h + 5)) (mJ M h 1) e ∧ depT (mJ M (h + 4)) n e < 0) := by
      intro e he
      rw [show mJ (itR (rClr M r) r h n 0) r 0 = 0 from b, bt_0]
      constructor
      · intro z; cases z
      · rintro ⟨-, z⟩; omega
    refine ⟨a, hp, fun e he => ⟨fun z => by omega, fun _ => c e (by omega)⟩, ready 0 hp⟩
  | succ i ih =>
    intro hi
    obtain ⟨a, b, c, d⟩ := ih (by omega)
    have e1 : itR (rClr M r) r h n (i + 1) = mkR (itR (rClr M r) r h n i) r h n := rfl
    have hp : ∀ e, e < n → (bt (mJ (itR (rClr M r) r h n (i + 1)) r 0) e = true ↔ live (mJ M (h + 5)) (mJ M h 1) e ∧ depT (mJ M (h + 4)) n e < i + 1) := by
      intro e he
      rw [e1, mkR_rp, bt_or, Bool.or_eq_true, b e he, d e]
      constructor
      · rintro (⟨x, y⟩ | ⟨_, x, y⟩)
        · exact ⟨x, by omega⟩
        · exact ⟨x, by omega⟩
      · rintro ⟨x, y⟩
        by_cases q : depT (mJ M (h + 4)) n e = i
        · exact Or.inr ⟨he, x, q⟩
        · exact Or.inl ⟨x, by omega⟩
    refine ⟨?_, hp, fun e he => ?_, ready (i + 1) hp⟩
    · rw [e1, mkR_rd, a, n1]
    · rw [e1, mkR_ro]
      have dd := d e
      obtain ⟨c1, c2⟩ := c e he
      constructor
      · rintro ⟨x, y⟩
        by_cases q : depT (mJ M (h + 4)) n e = i
        · rw [if_pos ⟨he, dd.mpr ⟨he, x, q⟩⟩, a, q]
        · rw [if_neg (fun z => q (dd.mp z.2).2.2)]
          exact c1 ⟨x, by omega⟩
      · intro z
        rw [if_neg (fun y => z ⟨(dd.mp y.2).2.1, by have := (dd.mp y.2).2.2; omega⟩)]
        exact c2 (fun y => z ⟨y.1, by omega⟩)
theorem dep_end {M : SM} {h r n j : Nat} {w : Nat → Int32} (hd : h + 6 ≤ r) (hL : LR M h w n) (j40 : j ≤ 40) (h0 : rdM (itR (rClr M r) r h n j) r h n = 0) : ∀ e, e < n → (live (mJ M (h + 5)) (mJ M h 1) e → mI (itR (rClr M r) r h n j) (r + 1) e = nI (depT (mJ M (h + 4)) n e)) ∧ (¬ live (mJ M (h + 5)) (mJ M h 1) e → mI (itR (rClr M r) r h n j) (r + 1) e = -6) := by
  obtain ⟨a, b, c, d⟩ := dep_inv (r := r) hd hL j j40
  have none_at : ∀ e, e < n → live (mJ M (h + 5)) (mJ M h 1) e → depT (mJ M (h + 4)) n e < j := by
    intro e
    induction e using Nat.strongRecOn with
    | _ e ih =>
      intro he hl
      have hne : ¬ depT (mJ M (h + 4)) n e = j := fun z => by
        have := (d e).mpr ⟨he, hl, z⟩
        rw [h0, bt_0] at this; cases this
      rcases Nat.lt_or_ge (depT (mJ M (h + 4)) n e) j with z | z
      · exact z
      · have e1 := depT_at (mJ M (h + 4)) n e he
        rcases dpI_ex (x := mJ M (h + 4) e) (g := depT (mJ M (h + 4)) n) e with y | ⟨k, hk, hb, y⟩
        · omega
        · have := ih k hk (by omega) (live_dn hL.2 he hl hb)
          omega
  intro e he
  exact ⟨fun z => (c e he).1 ⟨z, none_at e he z⟩, fun z => (c e he).2 (fun y => z y.1)⟩
