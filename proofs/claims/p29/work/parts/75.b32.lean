/-! sets of at most 31 as ints -/
/-- is k in the set -/
def b3 (s : Int32) (k : Nat) : Bool := s.toBitVec.getLsbD k
theorem b3_ext {x y : Int32} (h : ∀ i, i < 32 → b3 x i = b3 y i) : x = y := Int32.toBitVec_inj.mp (BitVec.eq_of_getLsbD_eq (fun i hi => h i hi))
theorem b3_or (x y : Int32) (i : Nat) : b3 (x ||| y) i = (b3 x i || b3 y i) := by unfold b3; rw [Int32.toBitVec_or, BitVec.getLsbD_or]
theorem b3_and (x y : Int32) (i : Nat) : b3 (x &&& y) i = (b3 x i && b3 y i) := by unfold b3; rw [Int32.toBitVec_and, BitVec.getLsbD_and]
theorem b3_xor (x y : Int32) (i : Nat) : b3 (x ^^^ y) i = (b3 x i ^^ b3 y i) := by unfold b3; rw [Int32.toBitVec_xor, BitVec.getLsbD_xor]
theorem b3_0 (i : Nat) : b3 0 i = false := BitVec.getLsbD_zero
theorem b3_big {x : Int32} {i : Nat} (h : 32 ≤ i) : b3 x i = false := BitVec.getLsbD_of_ge _ _ h
theorem b3_not (x : Int32) {i : Nat} (hi : i < 32) : b3 (x ^^^ (-1)) i = !b3 x i := by
  rw [b3_xor, show b3 (-1) i = true from (by decide +kernel : ∀ i, i < 32 → b3 (-1) i = true) i hi, Bool.xor_true]
/-- the set of one -/
abbrev e3 (k : Nat) : Int32 := 1 <<< (nI k &&& 31)
theorem e3_bv : ∀ k, k < 32 → (e3 k).toBitVec = BitVec.twoPow 32 k := by decide +kernel
theorem b3_e3 {k : Nat} (hk : k < 32) (i : Nat) : b3 (e3 k) i = decide (i = k) := by
  unfold b3
  rw [e3_bv k hk, BitVec.getLsbD_twoPow]
  by_cases h : k = i
  · subst h; simp [hk]
  · simp [h, Ne.symm h]
theorem c3_smod : ∀ k, k < 32 → (nI k &&& 31).toBitVec.smod 32 = BitVec.ofNat 32 k := by decide +kernel
theorem b3_sshr {x : Int32} {k : Nat} (hk : k < 32) (i : Nat) (hi : i + k < 32) : b3 (x >>> (nI k &&& 31)) i = b3 x (k + i) := by
  unfold b3
  rw [Int32.toBitVec_shiftRight, c3_smod k hk]
  show (x.toBitVec.sshiftRight (BitVec.ofNat 32 k).toNat).getLsbD i = _
  rw [BitVec.toNat_ofNat, Nat.mod_eq_of_lt (by omega), BitVec.getLsbD_sshiftRight]
  simp [show ¬ 32 ≤ i by omega, show k + i < 32 by omega]
/-- one bit, as the law reads it -/
theorem b3_read {x : Int32} {k : Nat} (hk : k < 32) : (x >>> (nI k &&& 31)) &&& 1 = if b3 x k = true then 1 else 0 := by
  apply b3_ext
  intro i hi
  have e1 : b3 1 i = decide (i = 0) := (by decide +kernel : ∀ i, i < 32 → b3 1 i = decide (i = 0)) i hi
  rw [b3_and, e1]
  by_cases h : i = 0
  · subst h
    rw [b3_sshr hk 0 (by omega), Nat.add_zero]
    by_cases hb : b3 x k = true
    · rw [if_pos hb, hb]; decide
    · rw [if_neg hb, Bool.not_eq_true _ |>.mp hb]; decide
  · rw [decide_eq_false h, Bool.and_false]
    by_cases hb : b3 x k = true
    · rw [if_pos hb, e1, decide_eq_false h]
    · rw [if_neg hb, b3_0]
theorem b3_m32 (p : Nat → Bool) : ∀ (n i : Nat), n ≤ 32 → b3 (m32 p n) i = (decide (i < n) && p i)
  | 0, i, _ => by simp [m32, b3_0]
  | n + 1, i, h => by
    unfold m32
    have ih := b3_m32 p n i (by omega)
    by_cases hp : p n = true
    · rw [if_pos hp, b3_or, ih, b3_e3 (by omega)]
      by_cases hi : i = n
      · subst hi; simp [hp]
      · simp only [hi, decide_false, Bool.or_false]
        congr 1
        simp only [decide_eq_decide]
        omega
    · rw [if_neg hp, ih]
      by_cases hi : i = n
      · subst hi; simp [hp]
      · congr 1
        simp only [decide_eq_decide]
        omega
theorem m32_S (p : Nat → Bool) (k : Nat) : m32 p (k + 1) = if p k = true then m32 p k ||| (1 <<< (nI k &&& 31)) else m32 p k := rfl
theorem m32_cong {p q : Nat → Bool} : ∀ {n : Nat}, (∀ i, i < n → p i = q i) → m32 p n = m32 q n
  | 0, _ => rfl
  | n + 1, h => by
    unfold m32
    rw [m32_cong (fun i hi => h i (by omega)), h n (by omega)]
/-- a set of at most twelve, as an int -/
def s32 (x : Int64) : Int32 := m32 (bt x) 12
theorem b3_s (x : Int64) (i : Nat) : b3 (s32 x) i = (decide (i < 12) && bt x i) := b3_m32 _ 12 i (by decide)
/-- within twelve -/
def w12 (x : Int64) : Prop := ∀ k, bt x k = true → k < 12
theorem b3_w {x : Int64} (h : w12 x) (i : Nat) : b3 (s32 x) i = bt x i := by
  rw [b3_s]
  by_cases q : i < 12
  · simp [q]
  · cases hb : bt x i with
    | false => simp
    | true => exact absurd (h i hb) q
theorem bt_sx {x : Int32} (h : b3 x 31 = false) (i : Nat) : bt x.toInt64 i = b3 x i := by
  unfold bt b3
  rw [Int32.toBitVec_toInt64, BitVec.getLsbD_signExtend]
  by_cases q : i < 32
  · simp [q, show i < 64 by omega]
  · have hm : x.toBitVec.msb = false := by
      rw [BitVec.msb_eq_getLsbD_last]
      exact h
    rw [BitVec.getLsbD_of_ge x.toBitVec i (by omega)]
    simp [q, hm]
theorem s32_l {x : Int64} (h : w12 x) : (s32 x).toInt64 = x := by
  apply bt_ext
  intro i hi
  rw [bt_sx (by rw [b3_s]; rfl), b3_w h]
/-- .. which sets they are -/
theorem s32_of {v : Int32} {x : Int64} (h : ∀ i, i < 32 → b3 v i = (decide (i < 12) && bt x i)) : v = s32 x := b3_ext fun i hi => by rw [h i hi, b3_s]
theorem m32_s {p : Nat → Bool} {n : Nat} (hn : n ≤ 12) : m32 p n = s32 (mk p n) := by
  apply s32_of
  intro i hi
  rw [b3_m32 _ _ _ (by omega), bt_mk _ _ _ (by omega)]
  by_cases q : i < n
  · simp [q, show i < 12 by omega]
  · simp [q]
theorem s32_0 {x : Int64} (h : w12 x) : (s32 x = 0) = (x = 0) := by
  refine propext ⟨fun e => ?_, fun e => ?_⟩
  · apply bt_ext
    intro i _
    rw [← b3_w h, e, b3_0, bt_0]
  · rw [e]; decide
theorem s32_inj {x y : Int64} (hx : w12 x) (hy : w12 y) : (s32 x = s32 y) = (x = y) := by
  refine propext ⟨fun e => ?_, fun e => by rw [e]⟩
  rw [← s32_l hx, ← s32_l hy, e]
theorem s32_and (x y : Int64) : s32 x &&& s32 y = s32 (x &&& y) := by
  apply s32_of
  intro i _
  rw [b3_and, b3_s, b3_s, bt_and]
  by_cases q : i < 12 <;> simp [q]
theorem s32_or (x y : Int64) : s32 x ||| s32 y = s32 (x ||| y) := by
  apply s32_of
  intro i _
  rw [b3_or, b3_s, b3_s, bt_or]
  by_cases q : i < 12 <;> simp [q]
theorem e3_s {k : Nat} (hk : k < 12) : e3 k = s32 (bE k) := by
  apply s32_of
  intro i _
  rw [b3_e3 (by omega), bt_bE (by omega)]
  by_cases q : i = k
  · subst q; simp [hk]
  · simp [q]
theorem w12_and {x y : Int64} (h : w12 x) : w12 (x &&& y) := fun k hk => by rw [bt_and, Bool.and_eq_true] at hk; exact h k hk.1
theorem w12_or {x y : Int64} (h : w12 x) (g : w12 y) : w12 (x ||| y) := fun k hk => by
  rw [bt_or, Bool.or_eq_true] at hk
  rcases hk with q | q
  · exact h k q
  · exact g k q
theorem w12_bE {k : Nat} (hk : k < 12) : w12 (bE k) := fun i hi => by rw [bt_bE (by omega), decide_eq_true_eq] at hi; omega
theorem w12_mk {p : Nat → Bool} {n : Nat} (hn : n ≤ 12) : w12 (mk p n) := fun k hk => by
  rw [bt_mk _ _ _ (by omega), Bool.and_eq_true, decide_eq_true_eq] at hk
  omega
theorem w12_0 : w12 0 := fun k hk => by rw [bt_0] at hk; cases hk
/-! counting -/
theorem nI_b3 {X : Nat} (i : Nat) (hi : i < 32) : b3 (nI X) i = X.testBit i := by
  show (BitVec.ofNat 32 X).getLsbD i = _
  rw [BitVec.getLsbD_ofNat]
  simp [hi]
theorem nI_and3 (X Y : Nat) : nI X &&& nI Y = nI (X &&& Y) := b3_ext fun i hi => by
  rw [b3_and, nI_b3 i hi, nI_b3 i hi, nI_b3 i hi, Nat.testBit_and]
theorem kern2 : ∀ a, a < 64 → ∀ b, b < 64 → 64 * a + b ≠ 0 → pcN 12 ((64 * a + b) &&& (64 * a + b - 1)) + 1 = pcN 12 (64 * a + b) ∧ ((64 * a + b) &&& (64 * a + b - 1)) < 64 * a + b := by decide +kernel
theorem kern (v : Nat) (h : v < 4096) (h0 : v ≠ 0) : pcN 12 (v &&& (v - 1)) + 1 = pcN 12 v ∧ (v &&& (v - 1)) < v := by
  have := kern2 (v / 64) (by omega) (v % 64) (by omega)
  rw [show 64 * (v / 64) + v % 64 = v by omega] at this
  exact this h0
/-- the number of a set -/
def nS (x : Int64) : Nat := (s32 x).toNatClampNeg
theorem m32_nat (p : Nat → Bool) : ∀ n, n ≤ 12 → ∃ v, v < 2 ^ n ∧ m32 p n = nI v ∧ ∀ i, i < n → v.testBit i = p i := by
  intro n
  induction n with
  | zero => intro _; exact ⟨0, by decide, rfl, fun i hi => by omega⟩
  | succ n ih =>
    intro hn
    obtain ⟨v, h1, h2, h3⟩ := ih (by omega)
    have hb : ∀ k, k < 12 → e3 k = nI (2 ^ k) := by decide +kernel
    unfold m32
    by_cases hp : p n = true
    · rw [if_pos hp, h2]
      refine ⟨v ||| 2 ^ n, Nat.or_lt_two_pow (by rw [Nat.pow_succ]; omega) (by rw [Nat.pow_succ]; have := Nat.two_pow_pos n; omega), ?_, ?_⟩
      · rw [show (1 <<< (nI n &&& 31) : Int32) = nI (2 ^ n) from hb n (by omega)]
        exact b3_ext fun i hi => by rw [b3_or, nI_b3 i hi, nI_b3 i hi, nI_b3 i hi, Nat.testBit_or]
      · intro i hi
        rw [Nat.testBit_or, Nat.testBit_two_pow]
        by_cases q : i = n
        · subst q; simp [hp]
        · rw [h3 i (by omega)]; simp [Ne.symm q]
    · rw [if_neg hp]
      refine ⟨v, by rw [Nat.pow_succ]; omega, h2, fun i hi => ?_⟩
      by_cases q : i = n
      · subst q
        rw [Nat.testBit_lt_two_pow h1]
        simp at hp
        rw [hp]
      · exact h3 i (by omega)
theorem c_bits3 {x : Int64} (hx : w12 x) (M : SM) : cl 63 [.int (s32 x)] M = some (some (.int (nI (cnt (bt x) 64))), M) := by
  obtain ⟨v, v1, v2, v3⟩ := m32_nat (bt x) 12 (by decide)
  have hc : cnt (bt x) 64 = pcN 12 v := by
    rw [cnt_more (bt x) (n := 12) (m := 64) (by decide) (fun i h1 _ => by
      cases hb : bt x i with
      | false => rfl
      | true => exact absurd (hx i hb) (by omega)), ← cnt_pcN]
    exact cnt_cong fun i hi => (v3 i hi).symm
  have lp : ∀ d u c, u ≤ d → u < 4096 → c + pcN 12 u < 100 → rn 63 4 [some (.int (s32 x)), some (.int (nI c)), some (.int (nI u))] [] M = some (some (.int (nI (c + pcN 12 u))), M) := by
    intro d
    induction d with
    | zero =>
      intro u c hu _ _
      obtain rfl : u = 0 := by omega
      rw [t63_4]
      have e : nI 0 = 0 := rfl
      have ep : pcN 12 0 = 0 := by decide
      simp only [t63_0, t63_1, t63_2, t63_3, t63_5, t63_8, t63_11, t63_12, t63_13, t63_14, t63_15, t63_16, t63_17, t63_20, t63_21, e, ep, Nat.add_zero, ↓reduceIte]
    | succ d ih =>
      intro u c hu h4 hb
      by_cases q : u = 0
      · subst q
        rw [t63_4]
        have e : nI 0 = 0 := rfl
        have ep : pcN 12 0 = 0 := by decide
        simp only [t63_0, t63_1, t63_2, t63_3, t63_5, t63_8, t63_11, t63_12, t63_13, t63_14, t63_15, t63_16, t63_17, t63_20, t63_21, e, ep, Nat.add_zero, ↓reduceIte]
      · obtain ⟨k1, k2⟩ := kern u h4 q
        have e : (nI u = 0) = False := by
          rw [show (0 : Int32) = nI 0 from rfl, nI_inj (by omega) (by omega)]
          exact eq_false q
        have em : nI u - 1 = nI (u - 1) := by
          obtain ⟨z, rfl⟩ : ∃ z, u = z + 1 := ⟨u - 1, by omega⟩
          rw [nI_pred]; rfl
        have ih := ih (u &&& (u - 1)) (c + 1) (by omega) (by omega) (by omega)
        rw [show c + 1 + pcN 12 (u &&& (u - 1)) = c + pcN 12 u by omega] at ih
        rw [t63_4]
        simp only [t63_0, t63_1, t63_2, t63_3, t63_5, t63_8, t63_11, t63_12, t63_13, t63_14, t63_15, t63_16, t63_17, t63_20, t63_21, e, em, nI_and3, n1, ↓reduceIte]
        exact ih
  have hp : pcN 12 v ≤ 64 := by rw [← hc]; exact cnt_le _ _
  have h0 := lp v v 0 (Nat.le_refl _) v1 (by omega)
  rw [Nat.zero_add, ← hc] at h0
  show rn 63 0 [some (.int (s32 x)), none, none] [] M = _
  rw [show s32 x = nI v from v2] at h0 ⊢
  simp only [t63_0, t63_1, t63_2, t63_3, t63_5, t63_8, t63_11, t63_12, t63_13, t63_14, t63_15, t63_16, t63_17, t63_20, t63_21]
  exact h0
