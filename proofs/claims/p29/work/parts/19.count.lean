/-! as in whole -/
def nU (x : Int64) : Nat := x.toBitVec.toNat
theorem nU_lt (x : Int64) : nU x < 18446744073709551616 := x.toBitVec.isLt
theorem nU_and (x y : Int64) : nU (x &&& y) = nU x &&& nU y := by
  unfold nU
  rw [Int64.toBitVec_and, BitVec.toNat_and]
theorem nU_add (x y : Int64) (h : nU x + nU y < 18446744073709551616) : nU (x + y) = nU x + nU y := by
  unfold nU at *
  rw [Int64.toBitVec_add, BitVec.toNat_add]
  exact Nat.mod_eq_of_lt h
theorem nU_sub (x y : Int64) (h : nU y ≤ nU x) : nU (x - y) = nU x - nU y := by
  have h2 := nU_lt x
  unfold nU at *
  rw [Int64.toBitVec_sub, BitVec.toNat_sub]
  show (18446744073709551616 - _ + _) % 18446744073709551616 = _
  omega
theorem nU_shr (x : Int64) (s : UInt64) (k : Nat) (hk : s.toNat % 64 = k) : nU (x.toUInt64 >>> s).toInt64 = nU x / 2 ^ k := by
  show (x.toUInt64 >>> s).toNat = _
  rw [UInt64.toNat_shiftRight, hk, Nat.shiftRight_eq_div_pow]
  rfl
/-- the library's steps -/
def bc1 (x : Int64) : Int64 := x - ((x.toUInt64 >>> ((1 : Int32).toInt64.toUInt64 &&& Int64.toUInt64 63)).toInt64 &&& 6148914691236517205)
def bc2 (x : Int64) : Int64 := (x &&& 3689348814741910323) + ((x.toUInt64 >>> ((2 : Int32).toInt64.toUInt64 &&& Int64.toUInt64 63)).toInt64 &&& 3689348814741910323)
def bc3 (x : Int64) : Int64 := (x + (x.toUInt64 >>> ((4 : Int32).toInt64.toUInt64 &&& Int64.toUInt64 63)).toInt64) &&& 1085102592571150095
def bc4 (x : Int64) : Int64 := x + (x.toUInt64 >>> ((8 : Int32).toInt64.toUInt64 &&& Int64.toUInt64 63)).toInt64
def bc5 (x : Int64) : Int64 := x + (x.toUInt64 >>> ((16 : Int32).toInt64.toUInt64 &&& Int64.toUInt64 63)).toInt64
def bc6 (x : Int64) : Int64 := x + (x.toUInt64 >>> ((32 : Int32).toInt64.toUInt64 &&& Int64.toUInt64 63)).toInt64
theorem c_bc (x : Int64) (M : SM) : cl 37 [.long x] M = some (some (.int ((bc6 (bc5 (bc4 (bc3 (bc2 (bc1 x)))))).toInt32 &&& 127)), M) := by
  show rn 37 0 [some (.long x), none] [] M = _
  rw [t37_0, t37_1, t37_2, t37_3, t37_4, t37_7, t37_8, t37_9, t37_10, t37_11, t37_14, t37_15, t37_16, t37_17, t37_18, t37_21, t37_22, t37_23, t37_24, t37_25, t37_26, t37_27, t37_28, t37_29, t37_32, t37_33, t37_34, t37_35, t37_36, t37_38, t37_39, t37_40, t37_41, t37_42, t37_43, t37_45, t37_46, t37_47, t37_48, t37_49, t37_50, t37_52, t37_53, t37_54, t37_55, t37_56, t37_57, t37_59, t37_60]
  rfl
theorem and_8 (A c m : Nat) (hc : c < 256) : A &&& (c + 256 * m) = (A % 256 &&& c) + 256 * (A / 256 &&& m) := by
  apply Nat.eq_of_testBit_eq
  intro i
  have hb : (A % 256 &&& c) < 2 ^ 8 := Nat.and_lt_two_pow _ hc
  rw [Nat.testBit_and, Nat.add_comm c, Nat.add_comm (A % 256 &&& c), show (256 : Nat) = 2 ^ 8 from rfl, Nat.testBit_two_pow_mul_add _ hc, Nat.testBit_two_pow_mul_add _ hb]
  by_cases h : i < 8
  · rw [if_pos h, if_pos h, Nat.testBit_and, show A % 256 = A % 2 ^ 8 from rfl, Nat.testBit_mod_two_pow]
    simp [h]
  · rw [if_neg h, if_neg h, Nat.testBit_and, Nat.testBit_div_two_pow, show i - 8 + 8 = i by omega]
/-- a mask of so many bytes -/
def mB8 (c : Nat) : Nat → Nat
  | 0 => 0
  | k + 1 => c + 256 * mB8 c k
def s1 (b : Nat) : Nat := b - (b / 2 &&& 85)
def s2 (b : Nat) : Nat := (b &&& 51) + (b / 4 &&& 51)
def s3 (b : Nat) : Nat := (b + b / 16) &&& 15
theorem d1 : ∀ b, b < 256 → ∀ y, y < 2 → (b / 2 + 128 * y) &&& 85 = b / 2 &&& 85 ∧ (b / 2 &&& 85) ≤ b := by decide +kernel
theorem d2 : ∀ b, b < 256 → ∀ y, y < 4 → (b / 4 + 64 * y) &&& 51 = b / 4 &&& 51 := by decide +kernel
theorem d3 : ∀ b, b < 256 → s1 b < 256 ∧ s2 (s1 b) ≤ 68 ∧ s2 (s1 b) % 16 ≤ 4 ∧ s2 (s1 b) / 16 ≤ 4 ∧ s3 (s2 (s1 b)) ≤ 8 := by decide +kernel
theorem e1 (k X : Nat) : (X / 2 &&& mB8 85 k) ≤ X ∧ X - (X / 2 &&& mB8 85 (k + 1)) = s1 (X % 256) + 256 * (X / 256 - (X / 256 / 2 &&& mB8 85 k)) ∧ (X / 2 &&& mB8 85 (k + 1)) ≤ X := by
  have hle : ∀ k X : Nat, (X / 2 &&& mB8 85 k) ≤ X := fun k X => Nat.le_trans Nat.and_le_left (Nat.div_le_self _ _)
  refine ⟨hle k X, ?_, hle (k + 1) X⟩
  show X - (X / 2 &&& (85 + 256 * mB8 85 k)) = _
  rw [and_8 _ _ _ (by decide)]
  have h1 : X / 2 % 256 = X % 256 / 2 + 128 * (X / 256 % 2) := by omega
  have h2 : X / 2 / 256 = X / 256 / 2 := by omega
  obtain ⟨a1, a2⟩ := d1 (X % 256) (by omega) (X / 256 % 2) (by omega)
  rw [h1, a1, h2]
  have h3 := hle k (X / 256)
  unfold s1
  omega
theorem e2 (k X : Nat) : (X &&& mB8 51 (k + 1)) + (X / 4 &&& mB8 51 (k + 1)) = s2 (X % 256) + 256 * ((X / 256 &&& mB8 51 k) + (X / 256 / 4 &&& mB8 51 k)) := by
  show (X &&& (51 + 256 * mB8 51 k)) + (X / 4 &&& (51 + 256 * mB8 51 k)) = _
  rw [and_8 _ _ _ (by decide), and_8 _ _ _ (by decide)]
  have h1 : X / 4 % 256 = X % 256 / 4 + 64 * (X / 256 % 4) := by omega
  have h2 : X / 4 / 256 = X / 256 / 4 := by omega
  rw [h1, d2 (X % 256) (by omega) (X / 256 % 4) (by omega), h2]
  unfold s2
  omega
/-- the first three steps, over so many bytes -/
def f1 (k X : Nat) : Nat := X - (X / 2 &&& mB8 85 k)
def f2 (k X : Nat) : Nat := (X &&& mB8 51 k) + (X / 4 &&& mB8 51 k)
theorem f1_s (k X : Nat) : f1 (k + 1) X = s1 (X % 256) + 256 * f1 k (X / 256) := (e1 k X).2.1
theorem f2_s (k X : Nat) : f2 (k + 1) X = s2 (X % 256) + 256 * f2 k (X / 256) := e2 k X
theorem f12_s (k X : Nat) : f2 (k + 1) (f1 (k + 1) X) = s2 (s1 (X % 256)) + 256 * f2 k (f1 k (X / 256)) := by
  have h := (d3 (X % 256) (by omega)).1
  rw [f2_s, f1_s, show (s1 (X % 256) + 256 * f1 k (X / 256)) % 256 = s1 (X % 256) by omega, show (s1 (X % 256) + 256 * f1 k (X / 256)) / 256 = f1 k (X / 256) by omega]
theorem f12_m : ∀ k X : Nat, f2 k (f1 k X) % 16 ≤ 4
  | 0, X => by
    show ((f1 0 X &&& 0) + (f1 0 X / 4 &&& 0)) % 16 ≤ 4
    simp
  | k + 1, X => by
    rw [f12_s]
    have := (d3 (X % 256) (by omega)).2.2.1
    omega
def f3 (k C : Nat) : Nat := (C + C / 16) &&& mB8 15 k
theorem f123_s (k X : Nat) : f3 (k + 1) (f2 (k + 1) (f1 (k + 1) X)) = s3 (s2 (s1 (X % 256))) + 256 * f3 k (f2 k (f1 k (X / 256))) := by
  rw [f12_s]
  obtain ⟨h1, h2, h3, h4, h5⟩ := d3 (X % 256) (by omega)
  have hm := f12_m k (X / 256)
  generalize f2 k (f1 k (X / 256)) = D at hm
  generalize hc : s2 (s1 (X % 256)) = c at *
  unfold f3
  show (c + 256 * D + (c + 256 * D) / 16) &&& (15 + 256 * mB8 15 k) = _
  rw [and_8 _ _ _ (by decide)]
  have e1 : (c + 256 * D + (c + 256 * D) / 16) % 256 % 16 = (c + c / 16) % 16 := by omega
  have e2 : (c + 256 * D + (c + 256 * D) / 16) / 256 = D + D / 16 := by omega
  have e3 : ∀ z : Nat, z &&& 15 = z % 16 := fun z => Nat.and_two_pow_sub_one_eq_mod z 4
  rw [e3, e1, e2]
  unfold s3
  rw [e3]
/-- bits, from the lowest -/
def pcN : Nat → Nat → Nat
  | 0, _ => 0
  | k + 1, X => X % 2 + pcN k (X / 2)
theorem pcN_s : ∀ b, b < 256 → s3 (s2 (s1 b)) = pcN 8 b := by decide +kernel
theorem pcN_8 (X : Nat) : pcN 8 X = pcN 8 (X % 256) := by
  simp only [pcN]
  omega
theorem pcN_add : ∀ (j k X : Nat), pcN (j + k) X = pcN j X + pcN k (X / 2 ^ j)
  | 0, k, X => by simp [pcN]
  | j + 1, k, X => by
    rw [show j + 1 + k = (j + k) + 1 by omega]
    show X % 2 + pcN (j + k) (X / 2) = (X % 2 + pcN j (X / 2)) + _
    rw [pcN_add j k, Nat.div_div_eq_div_mul, show 2 * 2 ^ j = 2 ^ (j + 1) by rw [Nat.pow_succ, Nat.mul_comm]]
    omega
theorem cnt_low (p : Nat → Bool) : ∀ n, cnt p (n + 1) = (if p 0 = true then 1 else 0) + cnt (fun i => p (i + 1)) n
  | 0 => by simp [cnt]
  | n + 1 => by
    have := cnt_low p n
    show cnt p (n + 1) + (if p (n + 1) = true then 1 else 0) = _ + (cnt (fun i => p (i + 1)) n + (if p (n + 1) = true then 1 else 0))
    omega
theorem cnt_pcN : ∀ (n X : Nat), cnt (fun i => X.testBit i) n = pcN n X
  | 0, X => rfl
  | n + 1, X => by
    rw [cnt_low]
    have e : cnt (fun i => X.testBit (i + 1)) n = pcN n (X / 2) := by
      rw [← cnt_pcN n (X / 2)]
      exact cnt_cong (fun i _ => by rw [Nat.testBit_add_one])
    show _ + cnt (fun i => X.testBit (i + 1)) n = X % 2 + pcN n (X / 2)
    rw [e, Nat.testBit_zero]
    by_cases h : X % 2 = 1
    · simp [h]
    · have : X % 2 = 0 := by omega
      simp [this]
/-- the bytes' counts, one after the other -/
def bS : Nat → Nat → Nat
  | 0, _ => 0
  | k + 1, X => pcN 8 X + 256 * bS k (X / 256)
theorem f123_b : ∀ k X : Nat, X < 256 ^ k → f3 k (f2 k (f1 k X)) = bS k X
  | 0, X, _ => by
    show (_ &&& 0) = 0
    simp
  | k + 1, X, h => by
    rw [f123_s, f123_b k (X / 256) (by rw [Nat.pow_succ] at h; exact Nat.div_lt_of_lt_mul (by rw [Nat.mul_comm]; exact h)), pcN_s _ (by omega), ← pcN_8]
    rfl
theorem pc8_le (X : Nat) : pcN 8 X ≤ 8 := by
  simp only [pcN]
  omega
theorem mB_85 : nU 6148914691236517205 = mB8 85 8 := by decide +kernel
theorem mB_51 : nU 3689348814741910323 = mB8 51 8 := by decide +kernel
theorem mB_15 : nU 1085102592571150095 = mB8 15 8 := by decide +kernel
theorem mB_51n : mB8 51 8 = 3689348814741910323 := by decide +kernel
theorem sh_1 : ((1 : Int32).toInt64.toUInt64 &&& Int64.toUInt64 63).toNat % 64 = 1 := by decide +kernel
theorem sh_2 : ((2 : Int32).toInt64.toUInt64 &&& Int64.toUInt64 63).toNat % 64 = 2 := by decide +kernel
theorem sh_4 : ((4 : Int32).toInt64.toUInt64 &&& Int64.toUInt64 63).toNat % 64 = 4 := by decide +kernel
theorem sh_8 : ((8 : Int32).toInt64.toUInt64 &&& Int64.toUInt64 63).toNat % 64 = 8 := by decide +kernel
theorem sh_16 : ((16 : Int32).toInt64.toUInt64 &&& Int64.toUInt64 63).toNat % 64 = 16 := by decide +kernel
theorem sh_32 : ((32 : Int32).toInt64.toUInt64 &&& Int64.toUInt64 63).toNat % 64 = 32 := by decide +kernel
theorem b_a1 (x : Int64) : nU (bc1 x) = f1 8 (nU x) := by
  unfold bc1
  rw [nU_sub _ _ (by rw [nU_and, nU_shr x _ 1 sh_1, mB_85]; exact (e1 8 (nU x)).1), nU_and, nU_shr x _ 1 sh_1, mB_85]
  rfl
theorem f2_le (k X : Nat) : f2 k X ≤ 2 * mB8 51 k := by
  unfold f2
  have h1 : (X &&& mB8 51 k) ≤ mB8 51 k := Nat.and_le_right
  have h2 : (X / 4 &&& mB8 51 k) ≤ mB8 51 k := Nat.and_le_right
  omega
theorem b_a2 (x : Int64) : nU (bc2 x) = f2 8 (nU x) := by
  unfold bc2
  have h1 : (nU x &&& mB8 51 8) ≤ mB8 51 8 := Nat.and_le_right
  have h2 : (nU x / 2 ^ 2 &&& mB8 51 8) ≤ mB8 51 8 := Nat.and_le_right
  have h3 := mB_51n
  rw [nU_add _ _ (by rw [nU_and, nU_and, nU_shr x _ 2 sh_2, mB_51]; omega), nU_and, nU_and, nU_shr x _ 2 sh_2, mB_51]
  rfl
theorem b_a3 (x : Int64) (h : nU x ≤ 2 * 3689348814741910323) : nU (bc3 x) = f3 8 (nU x) := by
  unfold bc3
  rw [nU_and, nU_add _ _ (by rw [nU_shr x _ 4 sh_4]; omega), nU_shr x _ 4 sh_4, mB_15]
  rfl
theorem b_a456 (z : Int64) (h : nU z < 1000000000000000000) : nU (bc6 (bc5 (bc4 z))) = ((nU z + nU z / 256) + (nU z + nU z / 256) / 65536) + ((nU z + nU z / 256) + (nU z + nU z / 256) / 65536) / 4294967296 := by
  have a4 : nU (bc4 z) = nU z + nU z / 256 := by
    unfold bc4
    rw [nU_add _ _ (by rw [nU_shr z _ 8 sh_8]; omega), nU_shr z _ 8 sh_8]
  have a5 : nU (bc5 (bc4 z)) = nU (bc4 z) + nU (bc4 z) / 65536 := by
    unfold bc5
    rw [nU_add _ _ (by rw [nU_shr _ _ 16 sh_16]; omega), nU_shr _ _ 16 sh_16]
  have a6 : nU (bc6 (bc5 (bc4 z))) = nU (bc5 (bc4 z)) + nU (bc5 (bc4 z)) / 4294967296 := by
    unfold bc6
    rw [nU_add _ _ (by rw [nU_shr _ _ 32 sh_32]; omega), nU_shr _ _ 32 sh_32]
  rw [a6, a5, a4]
theorem sumB {q0 q1 q2 q3 q4 q5 q6 q7 y : Nat} (h0 : q0 ≤ 8) (h1 : q1 ≤ 8) (h2 : q2 ≤ 8) (h3 : q3 ≤ 8) (h4 : q4 ≤ 8) (h5 : q5 ≤ 8) (h6 : q6 ≤ 8) (h7 : q7 ≤ 8) (hy : y = q0 + 256 * (q1 + 256 * (q2 + 256 * (q3 + 256 * (q4 + 256 * (q5 + 256 * (q6 + 256 * q7))))))) :
    y < 1000000000000000000 ∧ (((y + y / 256) + (y + y / 256) / 65536) + ((y + y / 256) + (y + y / 256) / 65536) / 4294967296) % 128 = q0 + (q1 + (q2 + (q3 + (q4 + (q5 + (q6 + q7)))))) := by
  refine ⟨by omega, ?_⟩
  have a : y / 256 = q1 + 256 * (q2 + 256 * (q3 + 256 * (q4 + 256 * (q5 + 256 * (q6 + 256 * q7))))) := by omega
  rw [a]
  obtain ⟨z, hz⟩ : ∃ z, z = y + (q1 + 256 * (q2 + 256 * (q3 + 256 * (q4 + 256 * (q5 + 256 * (q6 + 256 * q7)))))) := ⟨_, rfl⟩
  rw [← hz]
  have hz2 : z = (q0 + q1) + 256 * ((q1 + q2) + 256 * ((q2 + q3) + 256 * ((q3 + q4) + 256 * ((q4 + q5) + 256 * ((q5 + q6) + 256 * ((q6 + q7) + 256 * q7)))))) := by omega
  have b : z / 65536 = (q2 + q3) + 256 * ((q3 + q4) + 256 * ((q4 + q5) + 256 * ((q5 + q6) + 256 * ((q6 + q7) + 256 * q7)))) := by
    clear a hy hz
    omega
  rw [b]
  obtain ⟨u, hu⟩ : ∃ u, u = z + ((q2 + q3) + 256 * ((q3 + q4) + 256 * ((q4 + q5) + 256 * ((q5 + q6) + 256 * ((q6 + q7) + 256 * q7))))) := ⟨_, rfl⟩
  rw [← hu]
  have hu2 : u = (q0 + q1 + q2 + q3) + 256 * ((q1 + q2 + q3 + q4) + 256 * ((q2 + q3 + q4 + q5) + 256 * ((q3 + q4 + q5 + q6) + 256 * ((q4 + q5 + q6 + q7) + 256 * ((q5 + q6 + q7) + 256 * ((q6 + q7) + 256 * q7)))))) := by
    clear a hy hz b
    omega
  have d : u / 4294967296 = (q4 + q5 + q6 + q7) + 256 * ((q5 + q6 + q7) + 256 * ((q6 + q7) + 256 * q7)) := by
    clear a hy hz b hu hz2
    omega
  rw [d]
  clear a hy hz b hu hz2 d
  omega
theorem cnt_nU (x : Int64) : cnt (bt x) 64 = pcN 64 (nU x) := by
  rw [← cnt_pcN 64 (nU x)]
  rfl
theorem pcN_64 (X : Nat) : pcN 64 X = pcN 8 X + (pcN 8 (X / 256) + (pcN 8 (X / 256 / 256) + (pcN 8 (X / 256 / 256 / 256) + (pcN 8 (X / 256 / 256 / 256 / 256) + (pcN 8 (X / 256 / 256 / 256 / 256 / 256) + (pcN 8 (X / 256 / 256 / 256 / 256 / 256 / 256) + pcN 8 (X / 256 / 256 / 256 / 256 / 256 / 256 / 256))))))) := by
  have h : ∀ k X, pcN (8 + k) X = pcN 8 X + pcN k (X / 256) := fun k X => pcN_add 8 k X
  rw [show (64 : Nat) = 8 + (8 + (8 + (8 + (8 + (8 + (8 + 8)))))) from rfl, h, h, h, h, h, h, h]
theorem bS_8 (X : Nat) : bS 8 X = pcN 8 X + 256 * (pcN 8 (X / 256) + 256 * (pcN 8 (X / 256 / 256) + 256 * (pcN 8 (X / 256 / 256 / 256) + 256 * (pcN 8 (X / 256 / 256 / 256 / 256) + 256 * (pcN 8 (X / 256 / 256 / 256 / 256 / 256) + 256 * (pcN 8 (X / 256 / 256 / 256 / 256 / 256 / 256) + 256 * pcN 8 (X / 256 / 256 / 256 / 256 / 256 / 256 / 256))))))) := by
  have h : ∀ k X, bS (k + 1) X = pcN 8 X + 256 * bS k (X / 256) := fun k X => rfl
  have h0 : ∀ X, bS 1 X = pcN 8 X := fun X => by rw [h 0]; rfl
  rw [h 7, h 6, h 5, h 4, h 3, h 2, h 1, h0]
theorem c_bitCount (x : Int64) (M : SM) : cl 37 [.long x] M = some (some (.int (nI (cnt (bt x) 64))), M) := by
  rw [c_bc]
  have a3 : nU (bc3 (bc2 (bc1 x))) = bS 8 (nU x) := by
    rw [b_a3 _ (by rw [b_a2, ← mB_51n]; exact f2_le _ _), b_a2, b_a1]
    exact f123_b 8 (nU x) (nU_lt x)
  obtain ⟨s1, s2⟩ := sumB (pc8_le _) (pc8_le _) (pc8_le _) (pc8_le _) (pc8_le _) (pc8_le _) (pc8_le _) (pc8_le _) (bS_8 (nU x))
  have a6 := b_a456 (bc3 (bc2 (bc1 x))) (by rw [a3]; exact s1)
  rw [a3] at a6
  rw [← a6, ← pcN_64, ← cnt_nU] at s2
  have e127 : ∀ v : Int32, v &&& 127 = nI (v.toBitVec.toNat % 2 ^ 7) := fun v => pk_and v 7 (by decide)
  rw [e127, ← s2]
  have e : ∀ z : Int64, z.toInt32.toBitVec.toNat % 2 ^ 7 = nU z % 128 := fun z => by
    show (z.toBitVec.signExtend 32).toNat % 128 = z.toBitVec.toNat % 128
    rw [BitVec.signExtend_eq_setWidth_of_le _ (by decide), BitVec.toNat_setWidth]
    omega
  rw [e]
