/-! the law's comparison: unlike files -/
theorem or_idem (x y : Int32) : x ||| y ||| y = x ||| y := b3_ext fun i _ => by
  rw [b3_or, b3_or]
  cases b3 x i <;> cases b3 y i <;> rfl
theorem d_bits {Q : SM} {S B : Nat} (ko : mK Q (S + 152) = (1, 12)) (kB : mK Q B = (1, 12)) (jk8 jk9 jk10 jk11 jk12 jk13 jk14 jk15 jk16 jk17 jk18 jk19 jk20 jk21 jk22 jk23 : Option Value) : rn 69 942 [some (.ref S), some (.ref (S + 148)), some (.ref (S + 149)), some (.ref (S + 150)), some (.ref (S + 151)), some (.ref (S + 152)), some (.ref (S + 153)), some (.ref (S + 154)), jk8, jk9, jk10, jk11, jk12, jk13, jk14, jk15, some (.int (0)), some (.ref B), jk18, jk19, jk20, jk21, jk22, jk23] [] Q = rn 69 986 [some (.ref S), some (.ref (S + 148)), some (.ref (S + 149)), some (.ref (S + 150)), some (.ref (S + 151)), some (.ref (S + 152)), some (.ref (S + 153)), some (.ref (S + 154)), jk8, jk9, jk10, jk11, jk12, jk13, jk14, jk15, some (.int (m32 (fun g => decide (¬ (mI Q (S + 152) (2 * g) = mI Q B (2 * g) ∧ mI Q (S + 152) (2 * g + 1) = mI Q B (2 * g + 1)))) 6)), some (.ref B), some (.int (nI 12)), jk19, jk20, jk21, jk22, jk23] [] Q := by
  obtain ⟨p, hp⟩ : ∃ p : Nat → Bool, p = (fun g => decide (¬ (mI Q (S + 152) (2 * g) = mI Q B (2 * g) ∧ mI Q (S + 152) (2 * g + 1) = mI Q B (2 * g + 1)))) := ⟨_, rfl⟩
  rw [← hp]
  have hpg : ∀ g, p g = decide (¬ (mI Q (S + 152) (2 * g) = mI Q B (2 * g) ∧ mI Q (S + 152) (2 * g + 1) = mI Q B (2 * g + 1))) := fun g => by rw [hp]
  have two : ¬ (2 : Int32) = 0 := by decide
  have lp : ∀ m g, m + g = 6 → rn 69 945 [some (.ref S), some (.ref (S + 148)), some (.ref (S + 149)), some (.ref (S + 150)), some (.ref (S + 151)), some (.ref (S + 152)), some (.ref (S + 153)), some (.ref (S + 154)), jk8, jk9, jk10, jk11, jk12, jk13, jk14, jk15, some (.int (m32 p g)), some (.ref B), some (.int (nI (2 * g))), jk19, jk20, jk21, jk22, jk23] [] Q = rn 69 986 [some (.ref S), some (.ref (S + 148)), some (.ref (S + 149)), some (.ref (S + 150)), some (.ref (S + 151)), some (.ref (S + 152)), some (.ref (S + 153)), some (.ref (S + 154)), jk8, jk9, jk10, jk11, jk12, jk13, jk14, jk15, some (.int (m32 p 6)), some (.ref B), some (.int (nI 12)), jk19, jk20, jk21, jk22, jk23] [] Q := by
    intro m
    induction m with
    | zero =>
      intro g hg
      obtain rfl : g = 6 := by omega
      rw [t69_945]
      simp only [t69_947, t69_949, le12 (show 2 * 6 ≤ 1000000 by omega), show 12 ≤ 2 * 6 by decide, ↓reduceIte]
    | succ m ih =>
      intro g hg
      have ih := ih (g + 1) (by omega)
      have hg6 : g < 6 := by omega
      have a1 : ¬ 12 ≤ 2 * g := by omega
      have a2 : ¬ 12 ≤ 2 * g + 1 := by omega
      have ia : inR (nI (2 * g)) 12 = True := iT (by omega) (by decide)
      have ib : inR (nI (2 * g + 1)) 12 = True := iT (by omega) (by decide)
      have ca : (nI (2 * g)).toNatClampNeg = 2 * g := cN (by omega)
      have cb : (nI (2 * g + 1)).toNatClampNeg = 2 * g + 1 := cN (by omega)
      have da : nI (2 * g) / 2 = nI g := by
        rw [show (2 : Int32) = nI 2 from rfl, pk_div (by omega) (by decide) (by decide)]
        congr 1; omega
      have db : nI (2 * g + 1) / 2 = nI g := by
        rw [show (2 : Int32) = nI 2 from rfl, pk_div (by omega) (by decide) (by decide)]
        congr 1; omega
      have hpg := hpg g
      rw [m32_S, show 2 * (g + 1) = 2 * g + 1 + 1 by omega] at ih
      by_cases q1 : mI Q (S + 152) (2 * g) = mI Q B (2 * g)
      · by_cases q2 : mI Q (S + 152) (2 * g + 1) = mI Q B (2 * g + 1)
        · have hpf : p g = false := by rw [hpg, decide_eq_false_iff_not]; exact fun z => z ⟨q1, q2⟩
          rw [hpf, if_neg (by decide)] at ih
          rw [t69_945]
          simp only [t69_947, t69_949, t69_952, t69_954, t69_956, t69_958, t69_959, t69_961, t69_963, t69_964, t69_967, t69_968, t69_970, t69_971 two, t69_972, t69_973, t69_976, t69_977, t69_978, t69_980, t69_983, le12 (show 2 * g ≤ 1000000 by omega), a1, ↓reduceIte, ko, kB, true_or, ia, ca, and_self, q1, Int32.or_zero, n1]
          rw [t69_945]
          simp only [t69_947, t69_949, t69_952, t69_954, t69_956, t69_958, t69_959, t69_961, t69_963, t69_964, t69_967, t69_968, t69_970, t69_971 two, t69_972, t69_973, t69_976, t69_977, t69_978, t69_980, t69_983, le12 (show 2 * g + 1 ≤ 1000000 by omega), a2, ↓reduceIte, ko, kB, true_or, ib, cb, and_self, q2, Int32.or_zero, n1]
          exact ih
        · have hpt : p g = true := by rw [hpg, decide_eq_true_eq]; exact fun z => q2 z.2
          rw [hpt, if_pos rfl] at ih
          rw [t69_945]
          simp only [t69_947, t69_949, t69_952, t69_954, t69_956, t69_958, t69_959, t69_961, t69_963, t69_964, t69_967, t69_968, t69_970, t69_971 two, t69_972, t69_973, t69_976, t69_977, t69_978, t69_980, t69_983, le12 (show 2 * g ≤ 1000000 by omega), a1, ↓reduceIte, ko, kB, true_or, ia, ca, and_self, q1, Int32.or_zero, n1]
          rw [t69_945]
          simp only [t69_947, t69_949, t69_952, t69_954, t69_956, t69_958, t69_959, t69_961, t69_963, t69_964, t69_967, t69_968, t69_970, t69_971 two, t69_972, t69_973, t69_976, t69_977, t69_978, t69_980, t69_983, le12 (show 2 * g + 1 ≤ 1000000 by omega), a2, ↓reduceIte, ko, kB, true_or, ib, cb, and_self, q2, db, n1]
          exact ih
      · have hpt : p g = true := by rw [hpg, decide_eq_true_eq]; exact fun z => q1 z.1
        rw [hpt, if_pos rfl] at ih
        by_cases q2 : mI Q (S + 152) (2 * g + 1) = mI Q B (2 * g + 1)
        · rw [t69_945]
          simp only [t69_947, t69_949, t69_952, t69_954, t69_956, t69_958, t69_959, t69_961, t69_963, t69_964, t69_967, t69_968, t69_970, t69_971 two, t69_972, t69_973, t69_976, t69_977, t69_978, t69_980, t69_983, le12 (show 2 * g ≤ 1000000 by omega), a1, ↓reduceIte, ko, kB, true_or, ia, ca, and_self, q1, da, n1]
          rw [t69_945]
          simp only [t69_947, t69_949, t69_952, t69_954, t69_956, t69_958, t69_959, t69_961, t69_963, t69_964, t69_967, t69_968, t69_970, t69_971 two, t69_972, t69_973, t69_976, t69_977, t69_978, t69_980, t69_983, le12 (show 2 * g + 1 ≤ 1000000 by omega), a2, ↓reduceIte, ko, kB, true_or, ib, cb, and_self, q2, Int32.or_zero, n1]
          exact ih
        · rw [t69_945]
          simp only [t69_947, t69_949, t69_952, t69_954, t69_956, t69_958, t69_959, t69_961, t69_963, t69_964, t69_967, t69_968, t69_970, t69_971 two, t69_972, t69_973, t69_976, t69_977, t69_978, t69_980, t69_983, le12 (show 2 * g ≤ 1000000 by omega), a1, ↓reduceIte, ko, kB, true_or, ia, ca, and_self, q1, da, n1]
          rw [t69_945]
          simp only [t69_947, t69_949, t69_952, t69_954, t69_956, t69_958, t69_959, t69_961, t69_963, t69_964, t69_967, t69_968, t69_970, t69_971 two, t69_972, t69_973, t69_976, t69_977, t69_978, t69_980, t69_983, le12 (show 2 * g + 1 ≤ 1000000 by omega), a2, ↓reduceIte, ko, kB, true_or, ib, cb, and_self, q2, db, or_idem, n1]
          exact ih
  have h0 := lp 6 0 (by decide)
  rw [show m32 p 0 = 0 from rfl, show nI (2 * 0) = 0 from rfl] at h0
  simp only [t69_942, t69_943]
  exact h0
/-- .. as the class counts them -/
theorem unl_eq {X Y D V D' V' : Nat → Int32} (hX : TrR X D' V') (hY : TrR Y D V) (hI : TI D V) (h6 : Six V) (hI' : TI D' V') (h6' : Six V') :
    m32 (fun f => decide (¬ D f = D' f ∨ ¬ V f = V' f)) 16 = m32 (fun g => decide (¬ (X (2 * g) = Y (2 * g) ∧ X (2 * g + 1) = Y (2 * g + 1)))) 6 := by
  have st : ∀ j, j ≤ 10 → m32 (fun f => decide (¬ D f = D' f ∨ ¬ V f = V' f)) (6 + j) = m32 (fun f => decide (¬ D f = D' f ∨ ¬ V f = V' f)) 6 := by
    intro j
    induction j with
    | zero => intro _; rfl
    | succ j ih =>
      intro hj
      have v1 := h6 (6 + j) (by omega) (by omega)
      have v2 := h6' (6 + j) (by omega) (by omega)
      have d1 := hI.2.2.1 (6 + j) (by omega) v1
      have d2 := hI'.2.2.1 (6 + j) (by omega) v2
      rw [show 6 + (j + 1) = (6 + j) + 1 by omega, m32_S, if_neg (by rw [decide_eq_true_eq, v1, v2, d1, d2]; simp)]
      exact ih (by omega)
  rw [show (16 : Nat) = 6 + 10 from rfl, st 10 (by decide)]
  refine m32_cong fun g hg => ?_
  obtain ⟨x1, x2⟩ := hX g hg
  obtain ⟨y1, y2⟩ := hY g hg
  rw [x1, x2, y1, y2, decide_eq_decide]
  by_cases q : V g = -6
  · have d := hI.2.2.1 g (by omega) q
    by_cases q' : V' g = -6
    · have d' := hI'.2.2.1 g (by omega) q'
      simp only [q, q', d, d', ↓reduceIte, not_true_eq_false, or_self, and_self]
    · have e := dir9 hI' h6' (show g < 16 by omega) q'
      simp only [q, q', d, ↓reduceIte, e, false_and, not_false_eq_true, iff_true]
      exact Or.inr (fun z => q' z.symm)
  · have e := dir9 hI h6 (show g < 16 by omega) q
    by_cases q' : V' g = -6
    · have e2 : ((-9 : Int32) = D g) = False := eq_false (fun z => of_eq_false e z.symm)
      simp only [q, q', ↓reduceIte, e2, false_and, not_false_eq_true, or_true]
    · simp only [q, q', ↓reduceIte]
      constructor
      · rintro (z | z) ⟨a, b⟩
        · exact z a.symm
        · exact z b.symm
      · intro z
        by_cases a : D g = D' g
        · exact Or.inr (fun b => z ⟨a.symm, b.symm⟩)
        · exact Or.inl a
