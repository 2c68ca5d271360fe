/-! as in whole -/
/-- is k in the set -/
def bt (s : Int64) (k : Nat) : Bool := s.toBitVec.getLsbD k
theorem bt_ext {x y : Int64} (h : ∀ i, i < 64 → bt x i = bt y i) : x = y := Int64.toBitVec_inj.mp (BitVec.eq_of_getLsbD_eq (fun i hi => h i hi))
theorem bt_or (x y : Int64) (i : Nat) : bt (x ||| y) i = (bt x i || bt y i) := by unfold bt; rw [Int64.toBitVec_or, BitVec.getLsbD_or]
theorem bt_and (x y : Int64) (i : Nat) : bt (x &&& y) i = (bt x i && bt y i) := by unfold bt; rw [Int64.toBitVec_and, BitVec.getLsbD_and]
theorem bt_xor (x y : Int64) (i : Nat) : bt (x ^^^ y) i = (bt x i ^^ bt y i) := by unfold bt; rw [Int64.toBitVec_xor, BitVec.getLsbD_xor]
theorem bt_0 (i : Nat) : bt 0 i = false := BitVec.getLsbD_zero
theorem bt_big {x : Int64} {i : Nat} (h : 64 ≤ i) : bt x i = false := BitVec.getLsbD_of_ge _ _ h
theorem bt_not (x : Int64) {i : Nat} (hi : i < 64) : bt (x ^^^ (-1)) i = !bt x i := by
  rw [bt_xor, show bt (-1) i = true from (by decide +kernel : ∀ i, i < 64 → bt (-1) i = true) i hi, Bool.xor_true]
/-- the set of one -/
abbrev bE (k : Nat) : Int64 := 1 <<< ((nI k).toInt64 &&& 63)
theorem bE_bv : ∀ k, k < 64 → (bE k).toBitVec = BitVec.twoPow 64 k := by decide +kernel
theorem bt_bE {k : Nat} (hk : k < 64) (i : Nat) : bt (bE k) i = decide (i = k) := by
  unfold bt
  rw [bE_bv k hk, BitVec.getLsbD_twoPow]
  by_cases h : k = i
  · subst h; simp [hk]
  · simp [h, Ne.symm h]
theorem bt_in {x : Int64} {k : Nat} (hk : k < 64) : (x &&& bE k) = 0 ↔ bt x k = false := by
  constructor
  · intro h
    have := congrArg (fun z => bt z k) h
    simpa [bt_and, bt_bE hk, bt_0] using this
  · intro h
    apply bt_ext
    intro i _
    rw [bt_and, bt_bE hk, bt_0]
    by_cases hi : i = k
    · subst hi; simp [h]
    · simp [hi]
/-- the set of those below n for which p holds -/
def mk (p : Nat → Bool) : Nat → Int64
  | 0 => 0
  | n + 1 => if p n = true then mk p n ||| bE n else mk p n
theorem bt_mk (p : Nat → Bool) : ∀ (n i : Nat), n ≤ 64 → bt (mk p n) i = (decide (i < n) && p i)
  | 0, i, _ => by simp [mk, bt_0]
  | n + 1, i, h => by
    unfold mk
    have ih := bt_mk p n i (by omega)
    by_cases hp : p n = true
    · rw [if_pos hp, bt_or, ih, bt_bE (by omega)]
      by_cases hi : i = n
      · subst hi; simp [hp]
      · simp only [hi, decide_false, Bool.or_false]
        congr 1
        simp only [decide_eq_decide]
        omega
    · rw [if_neg hp, ih]
      by_cases hi : i = n
      · subst hi; simp [hp]
      · congr 1
        simp only [decide_eq_decide]
        omega
theorem mk_cong {p q : Nat → Bool} : ∀ {n : Nat}, (∀ i, i < n → p i = q i) → mk p n = mk q n
  | 0, _ => rfl
  | n + 1, h => by
    unfold mk
    rw [mk_cong (fun i hi => h i (by omega)), h n (by omega)]
/-- how many below n -/
def cnt (p : Nat → Bool) : Nat → Nat
  | 0 => 0
  | n + 1 => cnt p n + if p n = true then 1 else 0
theorem cnt_cong {p q : Nat → Bool} : ∀ {n : Nat}, (∀ i, i < n → p i = q i) → cnt p n = cnt q n
  | 0, _ => rfl
  | n + 1, h => by
    unfold cnt
    rw [cnt_cong (fun i hi => h i (by omega)), h n (by omega)]
theorem cnt_le (p : Nat → Bool) : ∀ n, cnt p n ≤ n
  | 0 => Nat.le_refl _
  | n + 1 => by
    have := cnt_le p n
    unfold cnt
    split <;> omega
theorem cnt_more (p : Nat → Bool) {n m : Nat} (h : n ≤ m) (hp : ∀ i, n ≤ i → i < m → p i = false) : cnt p m = cnt p n := by
  induction h with
  | refl => rfl
  | @step m h ih =>
    show cnt p m + (if p m = true then 1 else 0) = cnt p n
    rw [ih (fun i h1 h2 => hp i h1 (by omega)), hp m h (by omega)]
    simp
/-- a loop, from its end back -/
theorem loopB {P : Nat → Prop} {n : Nat} (hn : P n) (step : ∀ k, k < n → P (k + 1) → P k) : ∀ k, k ≤ n → P k := by
  intro k hk
  induction h : n - k generalizing k with
  | zero => rw [show k = n by omega]; exact hn
  | succ d ih => exact step k (by omega) (ih (k + 1) (by omega) (by omega))
theorem z01 (c : Prop) [Decidable c] : ((if c then (1 : Int32) else 0) = 0 ∨ (if c then (1 : Int32) else 0) = 1) = True := by by_cases h : c <;> simp [h]
theorem mK_sI (M : SM) (a : Nat) (f : Nat → Int32) : mK (sI M a f) = mK M := rfl
theorem mK_sJ (M : SM) (a : Nat) (f : Nat → Int64) : mK (sJ M a f) = mK M := rfl
theorem mP_sI (M : SM) (a : Nat) (f : Nat → Int32) : mP (sI M a f) = mP M := rfl
theorem mP_sJ (M : SM) (a : Nat) (f : Nat → Int64) : mP (sJ M a f) = mP M := rfl
theorem mJ_sI (M : SM) (a : Nat) (f : Nat → Int32) : mJ (sI M a f) = mJ M := rfl
theorem mI_sJ (M : SM) (a : Nat) (f : Nat → Int64) : mI (sJ M a f) = mI M := rfl
theorem va_rf_s (a : Nat) : va_rf (some a) = .ref a := rfl
theorem i_in {k n : Nat} (h : k < n) (hn : n < 2 ^ 31) : inR (nI k) n := ⟨nI_pos (by omega), by rw [nI_clamp (by omega)]; exact h⟩
theorem nI_c {k : Nat} (h : k < 2147483648) : (nI k).toNatClampNeg = k := nI_clamp h
