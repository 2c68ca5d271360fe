/-! as in whole -/
theorem fb_holes : ∀ (m n : Nat) (f : Nat → Nat), (∀ i, i < n → f i < m) → (∀ i j, i < j → j < n → f i ≠ f j) → n ≤ m := by
  intro m
  induction m with
  | zero =>
    intro n f h1 _
    rcases Nat.eq_zero_or_pos n with h | h
    · omega
    · exact absurd (h1 0 h) (Nat.not_lt_zero _)
  | succ m ih =>
    intro n f h1 h2
    by_cases hx : ∃ i, i < n ∧ f i = m
    · obtain ⟨a, ha, hfa⟩ := hx
      have hg := ih (n - 1) (fun i => if i < a then f i else f (i + 1)) (by
        intro i hi
        by_cases q : i < a
        · simp only [if_pos q]
          have b1 := h1 i (by omega)
          have b2 := h2 i a q ha
          omega
        · simp only [if_neg q]
          have b1 := h1 (i + 1) (by omega)
          have b2 := h2 a (i + 1) (by omega) (by omega)
          omega) (by
        intro i j hij hj
        by_cases q : i < a
        · by_cases r : j < a
          · simp only [if_pos q, if_pos r]
            exact h2 i j hij (by omega)
          · simp only [if_pos q, if_neg r]
            exact h2 i (j + 1) (by omega) (by omega)
        · have r : ¬ j < a := by omega
          simp only [if_neg q, if_neg r]
          exact h2 (i + 1) (j + 1) (by omega) (by omega))
      omega
    · have := ih n f (fun i hi => by
        have b1 := h1 i hi
        have b2 : f i ≠ m := fun e => hx ⟨i, hi, e⟩
        omega) h2
      omega
/-- the directory so many levels up -/
def gUp (D : Nat → Int32) : Nat → Int32 → Int32
  | 0, a => a
  | n + 1, a => gUp D n (D a.toNatClampNeg)
theorem f6 : isF (-6) = false := by decide
theorem trm_more {D : Nat → Int32} : ∀ (n : Nat) (a : Int32), trm D n a → trm D (n + 1) a := by
  intro n
  induction n with
  | zero => intro a h; exact h.elim
  | succ n ih =>
    intro a h
    rcases h with h | ⟨h1, h2⟩
    · exact Or.inl h
    · exact Or.inr ⟨h1, ih _ h2⟩
theorem trm_le {D : Nat → Int32} {n m : Nat} {a : Int32} (h : trm D n a) (hm : n ≤ m) : trm D m a := by
  induction m with
  | zero =>
    obtain rfl : n = 0 := by omega
    exact h
  | succ m ih =>
    by_cases q : n ≤ m
    · exact trm_more _ _ (ih q)
    · obtain rfl : n = m + 1 := by omega
      exact h
theorem trm_go {D : Nat → Int32} : ∀ (k n : Nat) (a : Int32), trm D (k + n) a → (∀ i, i < k → isF (gUp D i a) = true) → trm D n (gUp D k a) := by
  intro k
  induction k with
  | zero =>
    intro n a h _
    rw [Nat.zero_add] at h
    exact h
  | succ k ih =>
    intro n a h hi
    rw [show k + 1 + n = (k + n) + 1 by omega] at h
    have h0 := hi 0 (by omega)
    rcases h with rfl | ⟨-, h2⟩
    · rw [show gUp D 0 (-6) = -6 from rfl, f6] at h0
      cases h0
    · exact ih n _ h2 (fun i hlt => hi (i + 1) (by omega))
theorem trm_of {D : Nat → Int32} : ∀ (k n : Nat) (a : Int32), trm D n (gUp D k a) → (∀ i, i < k → isF (gUp D i a) = true) → trm D (k + n) a := by
  intro k
  induction k with
  | zero =>
    intro n a h _
    rw [Nat.zero_add]
    exact h
  | succ k ih =>
    intro n a h hi
    rw [show k + 1 + n = (k + n) + 1 by omega]
    exact Or.inr ⟨hi 0 (by omega), ih n _ h (fun i hlt => hi (i + 1) (by omega))⟩
theorem trm_17 {D : Nat → Int32} {a : Int32} : ∀ (n : Nat), trm D n a → trm D 17 a := by
  intro n
  induction n using Nat.strongRecOn with
  | _ n ih =>
    intro h
    by_cases hn : n ≤ 17
    · exact trm_le h hn
    by_cases hs : ∃ n', n' < n ∧ trm D n' a
    · obtain ⟨n', h1, h2⟩ := hs
      exact ih n' h1 h2
    exfalso
    have hF : ∀ k, k ≤ n - 1 → ∀ i, i < k → isF (gUp D i a) = true := by
      intro k
      induction k with
      | zero => intro _ i hi; omega
      | succ k ihk =>
        intro hk i hi
        by_cases q : i < k
        · exact ihk (by omega) i q
        obtain rfl : i = k := by omega
        have hb := ihk (by omega)
        have ht := trm_go i (n - i) a (by rw [show i + (n - i) = n by omega]; exact h) hb
        obtain ⟨r, hr⟩ : ∃ r, n - i = r + 1 := ⟨n - i - 1, by omega⟩
        rw [hr] at ht
        rcases ht with h6 | ⟨h6, -⟩
        · exact absurd ⟨i + 1, by omega, trm_of i 1 a (Or.inl h6) hb⟩ hs
        · exact h6
    have hF := hF (n - 1) (Nat.le_refl _)
    have := fb_holes 16 (n - 1) (fun i => (gUp D i a).toNatClampNeg) (by
      intro i hi
      obtain ⟨j, hj, e⟩ := isF_of (hF i hi)
      simp only [e]
      rw [nI_c (show j < 2147483648 by omega)]
      exact hj) (by
      intro i j hij hj e
      obtain ⟨x, hx, ex⟩ := isF_of (hF i (by omega))
      obtain ⟨y, hy, ey⟩ := isF_of (hF j hj)
      simp only [ex, ey] at e
      rw [nI_c (show x < 2147483648 by omega), nI_c (show y < 2147483648 by omega)] at e
      have eg : gUp D j a = gUp D i a := by rw [ex, ey, e]
      have hj' := trm_go j (n - j) a (by rw [show j + (n - j) = n by omega]; exact h) (fun i hi => hF i (by omega))
      rw [eg] at hj'
      exact hs ⟨i + (n - j), by omega, trm_of i (n - j) a hj' (fun i hi => hF i (by omega))⟩)
    omega
/-- chains outlive one change, if the changed file's own chain does -/
theorem trm_up {D D' : Nat → Int32} {f k : Nat} (hD : ∀ g, g ≠ f → D' g = D g) (hk : trm D' k (nI f)) : ∀ (n : Nat) (x : Int32), trm D n x → ∃ m, trm D' m x := by
  intro n
  induction n with
  | zero => intro x h; exact h.elim
  | succ n ih =>
    intro x h
    rcases h with rfl | ⟨h1, h2⟩
    · exact ⟨1, Or.inl rfl⟩
    · obtain ⟨j, hj, rfl⟩ := isF_of h1
      rw [nI_c (show j < 2147483648 by omega)] at h2
      by_cases q : j = f
      · subst q
        exact ⟨k, hk⟩
      · obtain ⟨m, hm⟩ := ih _ h2
        refine ⟨m + 1, Or.inr ⟨h1, ?_⟩⟩
        rw [nI_c (show j < 2147483648 by omega), hD j q]
        exact hm
theorem trm_nl {D D' : Nat → Int32} {f : Nat} (hf : f < 16) (hD : ∀ g, g ≠ f → D' g = D g) : ∀ (n : Nat) (x : Int32), trm D (n + 1) x → lies D n x (nI f) = false → trm D' (n + 1) x := by
  intro n
  induction n with
  | zero =>
    intro x h _
    rcases h with rfl | ⟨-, h⟩
    · exact Or.inl rfl
    · exact h.elim
  | succ n ih =>
    intro x h hl
    rcases h with rfl | ⟨h1, h2⟩
    · exact Or.inl rfl
    · obtain ⟨j, hj, rfl⟩ := isF_of h1
      rw [nI_c (show j < 2147483648 by omega)] at h2
      simp only [lies, h1, ↓reduceIte] at hl
      by_cases q : j = f
      · subst q
        simp at hl
      · have qn : (nI j = nI f) = False := by rw [nI_inj (by omega) (by omega)]; exact eq_false q
        simp only [qn, ↓reduceIte, nI_c (show j < 2147483648 by omega)] at hl
        refine Or.inr ⟨h1, ?_⟩
        rw [nI_c (show j < 2147483648 by omega), hD j q]
        exact ih _ h2 hl
theorem lies_no {D : Nat → Int32} {f : Nat} (hf : f < 16) (hn : ∀ g, g < 16 → ¬ D g = nI f) : ∀ (n : Nat) (x : Int32), ¬ x = nI f → lies D n x (nI f) = false := by
  intro n
  induction n with
  | zero => intro x _; rfl
  | succ n ih =>
    intro x hx
    cases hF : isF x with
    | false => simp only [lies, hF, Bool.false_eq_true, ↓reduceIte]
    | true =>
      obtain ⟨j, hj, rfl⟩ := isF_of hF
      simp only [lies, hF, ↓reduceIte, hx, nI_c (show j < 2147483648 by omega)]
      exact ih _ (hn j hj)
theorem or32_0 {x y : Int32} (h : x ||| y = 0) : x = 0 ∧ y = 0 := by
  have e : x.toBitVec ||| y.toBitVec = 0#32 := by
    rw [← Int32.toBitVec_or, h]; rfl
  constructor
  · apply Int32.toBitVec_inj.1
    exact (BitVec.or_eq_zero_iff.1 e).1
  · apply Int32.toBitVec_inj.1
    exact (BitVec.or_eq_zero_iff.1 e).2
theorem m32_0 {p : Nat → Bool} : ∀ n, n ≤ 16 → m32 p n = 0 → ∀ k, k < n → p k = false := by
  intro n
  induction n with
  | zero => intro _ _ k hk; omega
  | succ n ih =>
    intro hn h k hk
    have hb : ∀ j, j < 16 → ¬ (1 : Int32) <<< (nI j &&& 31) = 0 := by decide +kernel
    unfold m32 at h
    by_cases hp : p n = true
    · rw [if_pos hp] at h
      exact absurd (or32_0 h).2 (hb n (by omega))
    · rw [if_neg hp] at h
      by_cases q : k < n
      · exact ih (by omega) h k q
      · obtain rfl : k = n := by omega
        exact eq_false_of_ne_true hp
theorem TI_play {D V : Nat → Int32} {kd f : Nat} {a : Int32} (hI : TI D V) (ho : okE kd f a) (hr : rfs D V kd f a = 0) : TI (pD D kd f a) (pV V kd f a) := by
  obtain ⟨hk4, hf, hf0, hdir, hw1⟩ := ho
  obtain ⟨i1, i2, i3, i4, i5⟩ := hI
  have f0 : (0 : Nat) ≠ f := by omega
  match kd, hk4 with
  | 0, _ =>
    obtain ⟨j, hj, rfl⟩ := isF_of (hdir (Or.inl rfl))
    have hvf : V f = -6 := by
      by_cases q : V f = -6
      · exact q
      · simp [rfs, q] at hr
    have hvj : ¬ V j = -6 := by
      intro q
      simp [rfs, hvf, nI_c (show j < 2147483648 by omega), q] at hr
    have hjf : j ≠ f := fun e => hvj (e ▸ hvf)
    have hno : ∀ g, g < 16 → ¬ D g = nI f := by
      intro g hg e
      by_cases q : V g = -6
      · rw [i3 g hg q] at e
        exact of_eq_false (nI_m6 hf) e.symm
      · have g0 : 0 < g := by
          rcases Nat.eq_zero_or_pos g with h | h
          · subst h; rw [i1] at e; exact absurd e.symm (of_eq_false (nI_m6 hf))
          · exact h
        obtain ⟨p, hp, e2, e3⟩ := i4 g g0 hg q
        rw [e, nI_inj (by omega) (by omega)] at e2
        exact e3 (e2 ▸ hvf)
    have hD : ∀ g, g ≠ f → (va_up D f (nI j)) g = D g := fun g hg => va_up_ne _ _ hg
    have tj := trm_nl hf hD 16 (nI j) (i5 j hj) (lies_no hf hno 16 _ (fun e => hjf ((nI_inj (by omega) (by omega)).mp e)))
    have tf : trm (va_up D f (nI j)) 18 (nI f) := Or.inr ⟨isF_n hf, by rw [nI_c (show f < 2147483648 by omega), va_up_self]; exact tj⟩
    simp only [pD, pV, true_or, ↓reduceIte]
    refine ⟨?_, ?_, ?_, ?_, ?_⟩
    · rw [va_up_ne _ _ f0]; exact i1
    · rw [va_up_ne _ _ f0]; exact i2
    · intro g hg hv
      by_cases q : g = f
      · subst q; rw [va_up_self] at hv; cases hv
      · rw [va_up_ne _ _ q] at hv ⊢; exact i3 g hg hv
    · intro g hg0 hg hv
      by_cases q : g = f
      · subst q
        exact ⟨j, hj, va_up_self _ _ _, by rw [va_up_ne _ _ hjf]; exact hvj⟩
      · rw [va_up_ne _ _ q] at hv
        obtain ⟨p, hp, e2, e3⟩ := i4 g hg0 hg hv
        refine ⟨p, hp, by rw [va_up_ne _ _ q]; exact e2, ?_⟩
        rw [va_up_ne _ _ (fun e : p = f => e3 (by rw [e]; exact hvf))]; exact e3
    · intro g hg
      obtain ⟨m, hm⟩ := trm_up hD tf 17 _ (i5 g hg)
      exact trm_17 m hm
  | 1, _ =>
    simp only [pD, pV, Nat.one_ne_zero, (by decide : ((1 : Nat) = 2) = False), (by decide : ((1 : Nat) = 3) = False), or_self, ↓reduceIte]
    have hvf : ¬ V f = -6 := by
      intro q
      simp [rfs, q] at hr
    have hV : ∀ g, (va_up V f a g = -6) = (V g = -6) := by
      intro g
      by_cases q : g = f
      · subst q; rw [va_up_self]; exact (propext ⟨fun e => absurd e (hw1 rfl), fun e => absurd e hvf⟩)
      · rw [va_up_ne _ _ q]
    refine ⟨i1, by rw [va_up_ne _ _ f0]; exact i2, ?_, ?_, i5⟩
    · intro g hg hv
      rw [hV] at hv
      exact i3 g hg hv
    · intro g h0 hg hv
      rw [hV] at hv
      obtain ⟨p, hp, e2, e3⟩ := i4 g h0 hg hv
      exact ⟨p, hp, e2, by rw [hV]; exact e3⟩
  | 2, _ =>
    obtain ⟨j, hj, rfl⟩ := isF_of (hdir (Or.inr rfl))
    simp only [pD, pV, (by decide : ((2 : Nat) = 0) = False), (by decide : ((2 : Nat) = 1) = False), (by decide : ((2 : Nat) = 3) = False), or_true, ↓reduceIte]
    have hvf : ¬ V f = -6 := by
      intro q
      simp [rfs, q] at hr
    have hvj : ¬ V j = -6 := by
      intro q
      simp [rfs, hvf, nI_c (show j < 2147483648 by omega), q] at hr
    have hl : lies D 16 (nI j) (nI f) = false := by
      cases hq : lies D 16 (nI j) (nI f) with
      | false => rfl
      | true => simp [rfs, hvf, nI_c (show j < 2147483648 by omega), hvj, hq] at hr
    have hD : ∀ g, g ≠ f → (va_up D f (nI j)) g = D g := fun g hg => va_up_ne _ _ hg
    have tj := trm_nl hf hD 16 (nI j) (i5 j hj) hl
    have tf : trm (va_up D f (nI j)) 18 (nI f) := Or.inr ⟨isF_n hf, by rw [nI_c (show f < 2147483648 by omega), va_up_self]; exact tj⟩
    refine ⟨by rw [va_up_ne _ _ f0]; exact i1, i2, ?_, ?_, ?_⟩
    · intro g hg hv
      by_cases q : g = f
      · subst q; exact absurd hv hvf
      · rw [va_up_ne _ _ q]; exact i3 g hg hv
    · intro g hg0 hg hv
      by_cases q : g = f
      · subst q
        exact ⟨j, hj, va_up_self _ _ _, hvj⟩
      · rw [va_up_ne _ _ q]
        exact i4 g hg0 hg hv
    · intro g hg
      obtain ⟨m, hm⟩ := trm_up hD tf 17 _ (i5 g hg)
      exact trm_17 m hm
  | 3, _ =>
    simp only [pD, pV, (by decide : ((3 : Nat) = 0) = False), (by decide : ((3 : Nat) = 1) = False), (by decide : ((3 : Nat) = 2) = False), or_self, ↓reduceIte]
    have hvf : ¬ V f = -6 := by
      intro q
      simp [rfs, q] at hr
    have hm : m32 (fun g => decide (D g = nI f)) 16 = 0 := by
      by_cases q : m32 (fun g => decide (D g = nI f)) 16 = 0
      · exact q
      · simp [rfs, hvf, q] at hr
    have hno : ∀ g, g < 16 → ¬ D g = nI f := fun g hg => of_decide_eq_false (m32_0 16 (by decide) hm g hg)
    have hD : ∀ g, g ≠ f → (va_up D f (-6)) g = D g := fun g hg => va_up_ne _ _ hg
    have tf : trm (va_up D f (-6)) 2 (nI f) := Or.inr ⟨isF_n hf, by rw [nI_c (show f < 2147483648 by omega), va_up_self]; exact Or.inl rfl⟩
    refine ⟨by rw [va_up_ne _ _ f0]; exact i1, by rw [va_up_ne _ _ f0]; exact i2, ?_, ?_, ?_⟩
    · intro g hg hv
      by_cases q : g = f
      · subst q; exact va_up_self _ _ _
      · rw [va_up_ne _ _ q] at hv ⊢; exact i3 g hg hv
    · intro g hg0 hg hv
      by_cases q : g = f
      · subst q; rw [va_up_self] at hv; exact absurd rfl hv
      · rw [va_up_ne _ _ q] at hv
        obtain ⟨p, hp, e2, e3⟩ := i4 g hg0 hg hv
        refine ⟨p, hp, by rw [va_up_ne _ _ q]; exact e2, ?_⟩
        rw [va_up_ne _ _ (fun e => hno g hg (by rw [e2, e]))]; exact e3
    · intro g hg
      obtain ⟨m, hm⟩ := trm_up hD tf 17 _ (i5 g hg)
      exact trm_17 m hm
