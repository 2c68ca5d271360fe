/-! as in whole -/
theorem nw_K (M : SM) (kd : Nat × Nat) (u b : Nat) : mK (nw M kd u) b = if b = mS M then kd else mK M b := rfl
theorem nw_I (M : SM) (kd : Nat × Nat) (u b : Nat) : mI (nw M kd u) b = if b = mS M then fun _ => 0 else mI M b := rfl
theorem nw_J (M : SM) (kd : Nat × Nat) (u b : Nat) : mJ (nw M kd u) b = if b = mS M then fun _ => 0 else mJ M b := rfl
theorem nw_P (M : SM) (kd : Nat × Nat) (u b : Nat) : mP (nw M kd u) b = if b = mS M then fun _ => none else mP M b := rfl
theorem mS_nw (M : SM) (kd : Nat × Nat) (u : Nat) : mS (nw M kd u) = mS M + 1 := rfl
theorem mU_nw (M : SM) (kd : Nat × Nat) (u : Nat) : mU (nw M kd u) = mU M + u := rfl
def S4 (M M' : SM) (b : Nat) : Prop := mK M' b = mK M b ∧ mI M' b = mI M b ∧ mJ M' b = mJ M b ∧ mP M' b = mP M b
theorem S4.trans {M M1 M2 : SM} {b : Nat} (h : S4 M M1 b) (g : S4 M1 M2 b) : S4 M M2 b := ⟨g.1.trans h.1, g.2.1.trans h.2.1, g.2.2.1.trans h.2.2.1, g.2.2.2.trans h.2.2.2⟩
theorem S4.nw {M : SM} {kd : Nat × Nat} {u b : Nat} (h : b < mS M) : S4 M (nw M kd u) b := by
  have : ¬ b = mS M := by omega
  exact ⟨if_neg this, if_neg this, if_neg this, if_neg this⟩
theorem S4.sP {M : SM} {a b : Nat} {f : Nat → Option Nat} (h : b ≠ a) : S4 M (sP M a f) b := ⟨rfl, rfl, rfl, by rw [mP_sP, if_neg h]⟩
theorem S4.fr {M M' : SM} {lo hi b : Nat} (h : Fr M M' lo hi) (hb : b < lo ∨ hi ≤ b) : S4 M M' b := ⟨congrFun h.K b, (h.2 b hb).1, (h.2 b hb).2, congrFun h.P b⟩
theorem LogAt.s4 {M M' : SM} {h : Nat} (H : LogAt M h) (e : ∀ b, h ≤ b → b < h + 6 → S4 M M' b) : LogAt M' h := by
  unfold LogAt at *
  rw [(e h (by omega) (by omega)).1, (e h (by omega) (by omega)).2.2.2, (e (h + 1) (by omega) (by omega)).1, (e (h + 2) (by omega) (by omega)).1, (e (h + 3) (by omega) (by omega)).1, (e (h + 4) (by omega) (by omega)).1, (e (h + 5) (by omega) (by omega)).1]
  exact H
theorem TreeAt.s4 {M M' : SM} {h : Nat} (H : TreeAt M h) (e : ∀ b, h ≤ b → b < h + 3 → S4 M M' b) : TreeAt M' h := by
  unfold TreeAt at *
  rw [(e h (by omega) (by omega)).1, (e h (by omega) (by omega)).2.2.2, (e (h + 1) (by omega) (by omega)).1, (e (h + 2) (by omega) (by omega)).1]
  exact H
theorem RepAt.s4 {M M' : SM} {h : Nat} (H : RepAt M h) (e : ∀ b, h ≤ b → b < h + 6 → S4 M M' b) : RepAt M' h := by
  obtain ⟨r1, r2, r3, r4, r5, r6, r7⟩ := H
  have r7 := r7.s4 (fun b h1 h2 => e b (by omega) (by omega))
  refine ⟨?_, ?_, ?_, ?_, ?_, ?_, r7⟩
  · rw [(e h (by omega) (by omega)).1]; exact r1
  · rw [(e h (by omega) (by omega)).2.2.2]; exact r2
  · rw [(e h (by omega) (by omega)).2.2.2]; exact r3
  · rw [(e h (by omega) (by omega)).2.2.2]; exact r4
  · rw [(e (h + 1) (by omega) (by omega)).1]; exact r5
  · rw [(e (h + 2) (by omega) (by omega)).1]; exact r6
theorem StAt.s4 {M M' : SM} {s : Nat} (H : StAt M s) (e : ∀ b, s ≤ b → b < s + 13 → S4 M M' b) : StAt M' s := by
  obtain ⟨a, b, c, d, f⟩ := H
  refine ⟨?_, ?_, ?_, d.s4 (fun b h1 h2 => e b (by omega) (by omega)), f.s4 (fun b h1 h2 => e b (by omega) (by omega))⟩
  · rw [(e s (by omega) (by omega)).1]; exact a
  · rw [(e s (by omega) (by omega)).2.2.2]; exact b
  · rw [(e s (by omega) (by omega)).2.2.2]; exact c
theorem RR.s4 {M M' : SM} {r n R : Nat} {w : Nat → Int32} (H : RR M r w n R) (e : ∀ b, r ≤ b → b < r + 6 → S4 M M' b) : RR M' r w n R := by
  unfold RR at *
  rw [(e r (by omega) (by omega)).2.1, (e r (by omega) (by omega)).2.2.1, (e (r + 1) (by omega) (by omega)).2.1, (e (r + 2) (by omega) (by omega)).2.1, (e (r + 4) (by omega) (by omega)).2.1, (e (r + 5) (by omega) (by omega)).2.1]
  exact H
/-- a new cell, put into a field -/
def al (M : SM) (kd : Nat × Nat) (u a f x : Nat) : SM := sP (nw M kd u) a (va_up (mP (nw M kd u) a) f (some x))
theorem al_K {M : SM} {kd : Nat × Nat} {u a f x b : Nat} (h : b ≠ mS M) : mK (al M kd u a f x) b = mK M b := if_neg h
theorem al_Kx {M : SM} {kd : Nat × Nat} {u a f x : Nat} (h : x = mS M) : mK (al M kd u a f x) x = kd := if_pos h
theorem al_S {M : SM} {kd : Nat × Nat} {u a f x y : Nat} (h : mS M = y) : mS (al M kd u a f x) = y + 1 := by rw [← h]; rfl
theorem al_U (M : SM) (kd : Nat × Nat) (u a f x : Nat) : mU (al M kd u a f x) = mU M + u := rfl
theorem al_P {M : SM} {kd : Nat × Nat} {u a f x : Nat} (h : a ≠ mS M) : mP (al M kd u a f x) a = va_up (mP M a) f (some x) := by
  unfold al
  rw [mP_sP, if_pos rfl, nw_P, if_neg h]
theorem al_4 {M : SM} {kd : Nat × Nat} {u a f x b : Nat} (h : b < mS M) (hb : b ≠ a) : S4 M (al M kd u a f x) b := (S4.nw h).trans (S4.sP hb)
theorem al_IJ {M : SM} {kd : Nat × Nat} {u a f x b : Nat} (h : b ≠ mS M) : mI (al M kd u a f x) b = mI M b ∧ mJ (al M kd u a f x) b = mJ M b := ⟨if_neg h, if_neg h⟩
theorem c_newLog {M : SM} {a : Nat} (hS : mS M = a + 1) (hK : mK M a = (12, 0)) : ∃ M', cl 2 [.ref a] M = some (none, M') ∧ mS M' = a + 6 ∧ mU M' = mU M + 200 ∧ (∀ b, b < a → S4 M M' b) ∧ LogAt M' a ∧ mI M' a = mI M a ∧ mJ M' a = mJ M a := by
  have e40 : (40 : Int32).toNatClampNeg = 40 := by decide
  have c40 : ((0 : Int32) ≤ 40 ∧ (40 : Int32) ≤ 100000) = True := by decide
  have ne1 : (a = a + 1) = False := eq_false (by omega)
  have ne2 : (a = a + 2) = False := eq_false (by omega)
  have ne3 : (a = a + 3) = False := eq_false (by omega)
  have ne4 : (a = a + 4) = False := eq_false (by omega)
  have ne5 : (a = a + 5) = False := eq_false (by omega)
  obtain ⟨B1, hB1⟩ : ∃ B, B = al M (1, 40) 40 a 2 (a + 1) := ⟨_, rfl⟩
  have SB1 : mS B1 = a + 2 := by rw [hB1]; exact al_S hS
  have K1 : mK B1 a = (12, 0) := by rw [hB1, al_K (by rw [hS]; omega)]; exact hK
  have w1 : rn 2 4 [some (.ref a)] [] M = rn 2 12 [some (.ref a)] [] B1 := by
    simp only [t2_4, t2_5, t2_7, t2_9, c40, e40, ↓reduceIte, nw_K, hS, ne1, hK]
    rw [hB1]; rfl
  obtain ⟨B2, hB2⟩ : ∃ B, B = al B1 (1, 40) 40 a 3 (a + 2) := ⟨_, rfl⟩
  have SB2 : mS B2 = a + 3 := by rw [hB2]; exact al_S SB1
  have K2 : mK B2 a = (12, 0) := by rw [hB2, al_K (by rw [SB1]; omega)]; exact K1
  have w2 : rn 2 12 [some (.ref a)] [] B1 = rn 2 20 [some (.ref a)] [] B2 := by
    simp only [t2_12, t2_13, t2_15, t2_17, c40, e40, ↓reduceIte, nw_K, SB1, ne2, K1]
    rw [hB2]; rfl
  obtain ⟨B3, hB3⟩ : ∃ B, B = al B2 (1, 40) 40 a 4 (a + 3) := ⟨_, rfl⟩
  have SB3 : mS B3 = a + 4 := by rw [hB3]; exact al_S SB2
  have K3 : mK B3 a = (12, 0) := by rw [hB3, al_K (by rw [SB2]; omega)]; exact K2
  have w3 : rn 2 20 [some (.ref a)] [] B2 = rn 2 28 [some (.ref a)] [] B3 := by
    simp only [t2_20, t2_21, t2_23, t2_25, c40, e40, ↓reduceIte, nw_K, SB2, ne3, K2]
    rw [hB3]; rfl
  obtain ⟨B4, hB4⟩ : ∃ B, B = al B3 (2, 40) 40 a 5 (a + 4) := ⟨_, rfl⟩
  have SB4 : mS B4 = a + 5 := by rw [hB4]; exact al_S SB3
  have K4 : mK B4 a = (12, 0) := by rw [hB4, al_K (by rw [SB3]; omega)]; exact K3
  have w4 : rn 2 28 [some (.ref a)] [] B3 = rn 2 36 [some (.ref a)] [] B4 := by
    simp only [t2_28, t2_29, t2_31, t2_33, c40, e40, ↓reduceIte, nw_K, SB3, ne4, K3]
    rw [hB4]; rfl
  obtain ⟨B5, hB5⟩ : ∃ B, B = al B4 (2, 40) 40 a 6 (a + 5) := ⟨_, rfl⟩
  have SB5 : mS B5 = a + 6 := by rw [hB5]; exact al_S SB4
  have K5 : mK B5 a = (12, 0) := by rw [hB5, al_K (by rw [SB4]; omega)]; exact K4
  have w5 : rn 2 36 [some (.ref a)] [] B4 = rn 2 44 [some (.ref a)] [] B5 := by
    simp only [t2_36, t2_37, t2_39, t2_41, c40, e40, ↓reduceIte, nw_K, SB4, ne5, K4]
    rw [hB5]; rfl
  have k1 : mK B5 (a + 1) = (1, 40) := by
    rw [hB5, al_K (by rw [SB4]; omega), hB4, al_K (by rw [SB3]; omega), hB3, al_K (by rw [SB2]; omega), hB2, al_K (by rw [SB1]; omega), hB1]
    exact al_Kx (by rw [hS])
  have k2 : mK B5 (a + 2) = (1, 40) := by
    rw [hB5, al_K (by rw [SB4]; omega), hB4, al_K (by rw [SB3]; omega), hB3, al_K (by rw [SB2]; omega), hB2]
    exact al_Kx (by rw [SB1])
  have k3 : mK B5 (a + 3) = (1, 40) := by
    rw [hB5, al_K (by rw [SB4]; omega), hB4, al_K (by rw [SB3]; omega), hB3]
    exact al_Kx (by rw [SB2])
  have k4 : mK B5 (a + 4) = (2, 40) := by
    rw [hB5, al_K (by rw [SB4]; omega), hB4]
    exact al_Kx (by rw [SB3])
  have k5 : mK B5 (a + 5) = (2, 40) := by
    rw [hB5]
    exact al_Kx (by rw [SB4])
  have pa : mP B5 a = va_up (va_up (va_up (va_up (va_up (mP M a) 2 (some (a + 1))) 3 (some (a + 2))) 4 (some (a + 3))) 5 (some (a + 4))) 6 (some (a + 5)) := by
    rw [hB5, al_P (by rw [SB4]; omega), hB4, al_P (by rw [SB3]; omega), hB3, al_P (by rw [SB2]; omega), hB2, al_P (by rw [SB1]; omega), hB1, al_P (by rw [hS]; omega)]
  have s4 : ∀ b, b < a → S4 M B5 b := fun b hb => by
    have z1 : S4 M B1 b := by rw [hB1]; exact al_4 (by omega) (by omega)
    have z2 : S4 M B2 b := by rw [hB2]; exact z1.trans (al_4 (by omega) (by omega))
    have z3 : S4 M B3 b := by rw [hB3]; exact z2.trans (al_4 (by omega) (by omega))
    have z4 : S4 M B4 b := by rw [hB4]; exact z3.trans (al_4 (by omega) (by omega))
    have z5 : S4 M B5 b := by rw [hB5]; exact z4.trans (al_4 (by omega) (by omega))
    exact z5
  have ij : mI B5 a = mI M a ∧ mJ B5 a = mJ M a := by
    have z1 : mI B1 a = mI M a ∧ mJ B1 a = mJ M a := by rw [hB1]; exact al_IJ (by omega)
    have z2 : mI B2 a = mI M a ∧ mJ B2 a = mJ M a := by rw [hB2]; exact ⟨(al_IJ (by omega)).1.trans z1.1, (al_IJ (by omega)).2.trans z1.2⟩
    have z3 : mI B3 a = mI M a ∧ mJ B3 a = mJ M a := by rw [hB3]; exact ⟨(al_IJ (by omega)).1.trans z2.1, (al_IJ (by omega)).2.trans z2.2⟩
    have z4 : mI B4 a = mI M a ∧ mJ B4 a = mJ M a := by rw [hB4]; exact ⟨(al_IJ (by omega)).1.trans z3.1, (al_IJ (by omega)).2.trans z3.2⟩
    have z5 : mI B5 a = mI M a ∧ mJ B5 a = mJ M a := by rw [hB5]; exact ⟨(al_IJ (by omega)).1.trans z4.1, (al_IJ (by omega)).2.trans z4.2⟩
    exact z5
  have hu : mU B5 = mU M + 200 := by
    rw [hB5, al_U, hB4, al_U, hB3, al_U, hB2, al_U, hB1, al_U]
  refine ⟨B5, ?_, SB5, hu, s4, ⟨K5, ?_, ?_, ?_, ?_, ?_, k1, k2, k3, k4, k5⟩, ij⟩
  · show rn 2 0 [some (.ref a)] [] M = _
    simp only [t2_0, t2_1]
    rw [w1, w2, w3, w4, w5]
    simp only [t2_44]
  · rw [pa]; simp [va_up]
  · rw [pa]; simp [va_up]
  · rw [pa]; simp [va_up]
  · rw [pa]; simp [va_up]
  · rw [pa]; simp [va_up]
theorem Fr_tClr (M : SM) (t : Nat) : Fr M (tClr M t) t (t + 3) := ⟨rfl, fun b hb => ⟨by unfold tClr; rw [mI_sI, if_neg (by omega), mI_sI, if_neg (by omega)], rfl⟩⟩
theorem c_newTree {M : SM} {a : Nat} (hS : mS M = a + 1) (hK : mK M a = (14, 0)) : ∃ M', cl 4 [.ref a] M = some (none, M') ∧ mS M' = a + 3 ∧ mU M' = mU M + 32 ∧ (∀ b, b < a → S4 M M' b) ∧ TreeAt M' a := by
  have e16 : (16 : Int32).toNatClampNeg = 16 := by decide
  have c16 : ((0 : Int32) ≤ 16 ∧ (16 : Int32) ≤ 100000) = True := by decide
  have ne1 : (a = a + 1) = False := eq_false (by omega)
  have ne2 : (a = a + 2) = False := eq_false (by omega)
  obtain ⟨B1, hB1⟩ : ∃ B, B = al M (1, 16) 16 a 0 (a + 1) := ⟨_, rfl⟩
  have SB1 : mS B1 = a + 2 := by rw [hB1]; exact al_S hS
  have K1 : mK B1 a = (14, 0) := by rw [hB1, al_K (by rw [hS]; omega)]; exact hK
  have w1 : rn 4 4 [some (.ref a)] [] M = rn 4 12 [some (.ref a)] [] B1 := by
    simp only [t4_4, t4_5, t4_7, t4_9, c16, e16, ↓reduceIte, nw_K, hS, ne1, hK]
    rw [hB1]; rfl
  obtain ⟨B2, hB2⟩ : ∃ B, B = al B1 (1, 16) 16 a 1 (a + 2) := ⟨_, rfl⟩
  have SB2 : mS B2 = a + 3 := by rw [hB2]; exact al_S SB1
  have K2 : mK B2 a = (14, 0) := by rw [hB2, al_K (by rw [SB1]; omega)]; exact K1
  have w2 : rn 4 12 [some (.ref a)] [] B1 = rn 4 20 [some (.ref a)] [] B2 := by
    simp only [t4_12, t4_13, t4_15, t4_17, c16, e16, ↓reduceIte, nw_K, SB1, ne2, K1]
    rw [hB2]; rfl
  have k1 : mK B2 (a + 1) = (1, 16) := by
    rw [hB2, al_K (by rw [SB1]; omega), hB1]
    exact al_Kx (by rw [hS])
  have k2 : mK B2 (a + 2) = (1, 16) := by
    rw [hB2]
    exact al_Kx (by rw [SB1])
  have pa : mP B2 a = va_up (va_up (mP M a) 0 (some (a + 1))) 1 (some (a + 2)) := by
    rw [hB2, al_P (by rw [SB1]; omega), hB1, al_P (by rw [hS]; omega)]
  have s4 : ∀ b, b < a → S4 M B2 b := fun b hb => by
    have z1 : S4 M B1 b := by rw [hB1]; exact al_4 (by omega) (by omega)
    have z2 : S4 M B2 b := by rw [hB2]; exact z1.trans (al_4 (by omega) (by omega))
    exact z2
  have ij : mI B2 a = mI M a ∧ mJ B2 a = mJ M a := by
    have z1 : mI B1 a = mI M a ∧ mJ B1 a = mJ M a := by rw [hB1]; exact al_IJ (by omega)
    have z2 : mI B2 a = mI M a ∧ mJ B2 a = mJ M a := by rw [hB2]; exact ⟨(al_IJ (by omega)).1.trans z1.1, (al_IJ (by omega)).2.trans z1.2⟩
    exact z2
  have hu : mU B2 = mU M + 32 := by
    rw [hB2, al_U, hB1, al_U]
  have hT : TreeAt B2 a := ⟨K2, by rw [pa]; simp [va_up], by rw [pa]; simp [va_up], k1, k2⟩
  have hc := c_tClear hT
  have f := Fr_tClr B2 a
  refine ⟨tClr B2 a, ?_, SB2, hu, fun b hb => (s4 b hb).trans (S4.fr f (by omega)), hT.st f.1⟩
  show rn 4 0 [some (.ref a)] [] M = _
  simp only [t4_0, t4_1]
  rw [w1, w2]
  simp only [t4_20, t4_21, t4_24, K2, hc, cbn_v, ↓reduceIte]
theorem c_newRep {M : SM} {a : Nat} (hS : mS M = a + 1) (hK : mK M a = (13, 0)) : ∃ M', cl 3 [.ref a] M = some (none, M') ∧ mS M' = a + 6 ∧ mU M' = mU M + 114 ∧ (∀ b, b < a → S4 M M' b) ∧ RepAt M' a ∧ ∀ W, W 1 = 0 → TR W D0 V0 → RR M' a W 0 0 := by
  have e40 : (40 : Int32).toNatClampNeg = 40 := by decide
  have c40 : ((0 : Int32) ≤ 40 ∧ (40 : Int32) ≤ 100000) = True := by decide
  have ne1 : (a = a + 1) = False := eq_false (by omega)
  have ne2 : (a = a + 2) = False := eq_false (by omega)
  have ne3 : (a = a + 3) = False := eq_false (by omega)
  obtain ⟨B1, hB1⟩ : ∃ B, B = al M (1, 40) 40 a 4 (a + 1) := ⟨_, rfl⟩
  have SB1 : mS B1 = a + 2 := by rw [hB1]; exact al_S hS
  have K1 : mK B1 a = (13, 0) := by rw [hB1, al_K (by rw [hS]; omega)]; exact hK
  have w1 : rn 3 4 [some (.ref a)] [] M = rn 3 12 [some (.ref a)] [] B1 := by
    simp only [t3_4, t3_5, t3_7, t3_9, c40, e40, ↓reduceIte, nw_K, hS, ne1, hK]
    rw [hB1]; rfl
  obtain ⟨B2, hB2⟩ : ∃ B, B = al B1 (1, 40) 40 a 5 (a + 2) := ⟨_, rfl⟩
  have SB2 : mS B2 = a + 3 := by rw [hB2]; exact al_S SB1
  have K2 : mK B2 a = (13, 0) := by rw [hB2, al_K (by rw [SB1]; omega)]; exact K1
  have w2 : rn 3 12 [some (.ref a)] [] B1 = rn 3 20 [some (.ref a)] [] B2 := by
    simp only [t3_12, t3_13, t3_15, t3_17, c40, e40, ↓reduceIte, nw_K, SB1, ne2, K1]
    rw [hB2]; rfl
  have k1 : mK B2 (a + 1) = (1, 40) := by
    rw [hB2, al_K (by rw [SB1]; omega), hB1]
    exact al_Kx (by rw [hS])
  have k2 : mK B2 (a + 2) = (1, 40) := by
    rw [hB2]
    exact al_Kx (by rw [SB1])
  have pa : mP B2 a = va_up (va_up (mP M a) 4 (some (a + 1))) 5 (some (a + 2)) := by
    rw [hB2, al_P (by rw [SB1]; omega), hB1, al_P (by rw [hS]; omega)]
  have s4 : ∀ b, b < a → S4 M B2 b := fun b hb => by
    have z1 : S4 M B1 b := by rw [hB1]; exact al_4 (by omega) (by omega)
    have z2 : S4 M B2 b := by rw [hB2]; exact z1.trans (al_4 (by omega) (by omega))
    exact z2
  have ij : mI B2 a = mI M a ∧ mJ B2 a = mJ M a := by
    have z1 : mI B1 a = mI M a ∧ mJ B1 a = mJ M a := by rw [hB1]; exact al_IJ (by omega)
    have z2 : mI B2 a = mI M a ∧ mJ B2 a = mJ M a := by rw [hB2]; exact ⟨(al_IJ (by omega)).1.trans z1.1, (al_IJ (by omega)).2.trans z1.2⟩
    exact z2
  have hu : mU B2 = mU M + 80 := by
    rw [hB2, al_U, hB1, al_U]
  obtain ⟨N, hN⟩ : ∃ N, N = nw B2 (14, 0) 2 := ⟨_, rfl⟩
  have SN : mS N = a + 3 + 1 := by rw [hN, mS_nw, SB2]
  obtain ⟨M3, x1, x2, x3, x4, x5⟩ := c_newTree (M := N) (a := a + 3) SN (by rw [hN, nw_K, if_pos (by rw [SB2])])
  obtain ⟨M4, hM4⟩ : ∃ M4, M4 = sP M3 a (va_up (mP M3 a) 6 (some (a + 3))) := ⟨_, rfl⟩
  have sN : ∀ b, b < a + 3 → S4 B2 M3 b := fun b hb => (by rw [hN] at x4; exact (S4.nw (by rw [SB2]; omega)).trans (x4 b hb))
  have kN : mK N a = (13, 0) := by rw [hN, nw_K, if_neg (by rw [SB2]; omega)]; exact K2
  have k3 : mK M3 a = (13, 0) := (sN a (by omega)).1.trans K2
  have s34 : ∀ b, b ≠ a → S4 M3 M4 b := fun b hb => by rw [hM4]; exact S4.sP hb
  have p4 : mP M4 a = va_up (va_up (va_up (mP M a) 4 (some (a + 1))) 5 (some (a + 2))) 6 (some (a + 3)) := by
    rw [hM4, mP_sP, if_pos rfl, (sN a (by omega)).2.2.2, pa]
  have hR : RepAt M4 a := by
    refine ⟨by rw [hM4]; exact k3, ?_, ?_, ?_, ?_, ?_, x5.s4 (fun b h1 h2 => s34 b (by omega))⟩
    · rw [p4]; simp [va_up]
    · rw [p4]; simp [va_up]
    · rw [p4]; simp [va_up]
    · rw [(s34 (a + 1) (by omega)).1, (sN (a + 1) (by omega)).1]; exact k1
    · rw [(s34 (a + 2) (by omega)).1, (sN (a + 2) (by omega)).1]; exact k2
  have hcl := c_rClear hR
  have f := Fr_rClr M4 a
  refine ⟨rClr M4 a, ?_, ?_, ?_, fun b hb => (((s4 b hb).trans (sN b (by omega))).trans (s34 b (by omega))).trans (S4.fr f (by omega)), hR.st f.1, fun W w1 hT => RR_clr (by decide) w1 (fun e he => by omega) hT⟩
  · show rn 3 0 [some (.ref a)] [] M = _
    simp only [t3_0, t3_1]
    rw [w1, w2]
    simp only [t3_20, t3_21, t3_24, t3_25, SB2]
    rw [← hN, x1]
    simp only [cbn_v, t3_28, k3, ↓reduceIte]
    rw [← hM4]
    simp only [t3_31, t3_32, t3_35, hR.1, hcl, cbn_v, ↓reduceIte]
  · show mS M4 = _
    rw [hM4]; exact x2
  · show mU M4 = _
    rw [hM4]
    show mU M3 = _
    rw [x3, hN, mU_nw, hu]
def INI (M : SM) (s : Nat) : Prop := mI M (s + 1) 0 = 0 ∧ mJ M (s + 1) 1 = 0 ∧ ∀ W, W 1 = 0 → TR W D0 V0 → RR M (s + 7) W 0 0
theorem INI.s4 {M M' : SM} {s : Nat} (H : INI M s) (e : ∀ b, s ≤ b → b < s + 13 → S4 M M' b) : INI M' s := by
  obtain ⟨a, b, c⟩ := H
  refine ⟨?_, ?_, fun W w1 hT => (c W w1 hT).s4 (fun b h1 h2 => e b (by omega) (by omega))⟩
  · rw [(e (s + 1) (by omega) (by omega)).2.1]; exact a
  · rw [(e (s + 1) (by omega) (by omega)).2.2.1]; exact b
theorem c_newState {M : SM} {a : Nat} (hS : mS M = a + 1) (hK : mK M a = (11, 0)) : ∃ M', cl 1 [.ref a] M = some (none, M') ∧ mS M' = a + 13 ∧ mU M' ≤ mU M + 400 ∧ (∀ b, b < a → S4 M M' b) ∧ StAt M' a ∧ INI M' a := by
  obtain ⟨N, hN⟩ : ∃ N, N = nw M (12, 0) 7 := ⟨_, rfl⟩
  have SN : mS N = a + 1 + 1 := by rw [hN, mS_nw, hS]
  obtain ⟨M1, x1, x2, x3, x4, x5, x6, x7⟩ := c_newLog (M := N) (a := a + 1) SN (by rw [hN, nw_K, if_pos hS.symm])
  have n6 : mI M1 (a + 1) = fun _ => 0 := by rw [x6, hN, nw_I, if_pos hS.symm]
  have n7 : mJ M1 (a + 1) = fun _ => 0 := by rw [x7, hN, nw_J, if_pos hS.symm]
  have sN : ∀ b, b < a + 1 → S4 M M1 b := fun b hb => (by rw [hN] at x4; exact (S4.nw (by omega)).trans (x4 b hb))
  have k1 : mK M1 a = (11, 0) := (sN a (by omega)).1.trans hK
  obtain ⟨M2, hM2⟩ : ∃ M2, M2 = sP M1 a (va_up (mP M1 a) 0 (some (a + 1))) := ⟨_, rfl⟩
  have s12 : ∀ b, b ≠ a → S4 M1 M2 b := fun b hb => by rw [hM2]; exact S4.sP hb
  have S2 : mS M2 = a + 7 := by rw [hM2]; exact x2
  have k2 : mK M2 a = (11, 0) := by rw [hM2]; exact k1
  obtain ⟨N2, hN2⟩ : ∃ N, N = nw M2 (13, 0) 7 := ⟨_, rfl⟩
  have SN2 : mS N2 = a + 7 + 1 := by rw [hN2, mS_nw, S2]
  obtain ⟨M3, y1, y2, y3, y4, y5, y6⟩ := c_newRep (M := N2) (a := a + 7) SN2 (by rw [hN2, nw_K, if_pos S2.symm])
  have sN2 : ∀ b, b < a + 7 → S4 M2 M3 b := fun b hb => (by rw [hN2] at y4; exact (S4.nw (by omega)).trans (y4 b hb))
  have k3 : mK M3 a = (11, 0) := (sN2 a (by omega)).1.trans k2
  obtain ⟨M4, hM4⟩ : ∃ M4, M4 = sP M3 a (va_up (mP M3 a) 1 (some (a + 7))) := ⟨_, rfl⟩
  have s34 : ∀ b, b ≠ a → S4 M3 M4 b := fun b hb => by rw [hM4]; exact S4.sP hb
  have p4 : mP M4 a = va_up (va_up (mP M1 a) 0 (some (a + 1))) 1 (some (a + 7)) := by
    rw [hM4, mP_sP, if_pos rfl, (sN2 a (by omega)).2.2.2, hM2, mP_sP, if_pos rfl]
  have l4 : LogAt M4 (a + 1) := ((x5.s4 (fun b h1 h2 => s12 b (by omega))).s4 (fun b h1 h2 => sN2 b (by omega))).s4 (fun b h1 h2 => s34 b (by omega))
  have q4 : S4 M1 M4 (a + 1) := ((s12 (a + 1) (by omega)).trans (sN2 (a + 1) (by omega))).trans (s34 (a + 1) (by omega))
  refine ⟨M4, ?_, by rw [hM4]; exact y2, ?_, fun b hb => (((sN b (by omega)).trans (s12 b (by omega))).trans (sN2 b (by omega))).trans (s34 b (by omega)), ⟨by rw [hM4]; exact k3, by rw [p4]; simp [va_up], by rw [p4]; simp [va_up], l4, y5.s4 (fun b h1 h2 => s34 b (by omega))⟩, ⟨?_, ?_, fun W w1 hT => (y6 W w1 hT).s4 (fun b h1 h2 => s34 b (by omega))⟩⟩
  · show rn 1 0 [some (.ref a)] [] M = _
    simp only [t1_0, t1_1, t1_4, t1_5, t1_8, t1_9, hS]
    rw [← hN, x1]
    simp only [cbn_v, t1_12, k1, ↓reduceIte]
    rw [← hM2]
    simp only [t1_15, t1_16, t1_19, t1_20, S2]
    rw [← hN2, y1]
    simp only [cbn_v, t1_23, t1_26, k3, ↓reduceIte]
    rw [← hM4]
  · have e4 : mU M4 = mU M3 := by rw [hM4]; rfl
    have e3 : mU N2 = mU M2 + 7 := by rw [hN2]; rfl
    have e2 : mU M2 = mU M1 := by rw [hM2]; rfl
    have e1 : mU N = mU M + 7 := by rw [hN]; rfl
    omega
  · rw [q4.2.1, n6]
  · rw [q4.2.2.1, n7]
theorem c_newSlot {M : SM} {a : Nat} (hS : mS M = a + 1) (hK : mK M a = (18, 0)) : ∃ M', cl 11 [.ref a] M = some (none, M') ∧ mS M' = a + 14 ∧ mU M' ≤ mU M + 410 ∧ (∀ b, b < a → S4 M M' b) ∧ mK M' a = (18, 0) ∧ mP M' a 0 = some (a + 1) ∧ mI M' a = mI M a ∧ StAt M' (a + 1) := by
  obtain ⟨N, hN⟩ : ∃ N, N = nw M (11, 0) 2 := ⟨_, rfl⟩
  have SN : mS N = a + 1 + 1 := by rw [hN, mS_nw, hS]
  obtain ⟨M1, x1, x2, x3, x4, x5, x6⟩ := c_newState (M := N) (a := a + 1) SN (by rw [hN, nw_K, if_pos hS.symm])
  have sN : ∀ b, b < a + 1 → S4 M M1 b := fun b hb => (by rw [hN] at x4; exact (S4.nw (by omega)).trans (x4 b hb))
  have k1 : mK M1 a = (18, 0) := (sN a (by omega)).1.trans hK
  obtain ⟨M2, hM2⟩ : ∃ M2, M2 = sP M1 a (va_up (mP M1 a) 0 (some (a + 1))) := ⟨_, rfl⟩
  have s12 : ∀ b, b ≠ a → S4 M1 M2 b := fun b hb => by rw [hM2]; exact S4.sP hb
  refine ⟨M2, ?_, by rw [hM2]; exact x2, ?_, fun b hb => (sN b (by omega)).trans (s12 b (by omega)), by rw [hM2]; exact k1, by rw [hM2, mP_sP, if_pos rfl, va_up_self], ?_, x5.s4 (fun b h1 h2 => s12 b (by omega))⟩
  · show rn 11 0 [some (.ref a)] [] M = _
    simp only [t11_0, t11_1, t11_4, t11_5, t11_8, t11_9, hS]
    rw [← hN, x1]
    simp only [cbn_v, t11_12, t11_15, k1, ↓reduceIte]
    rw [← hM2]
  · have e2 : mU M2 = mU M1 := by rw [hM2]; rfl
    have e1 : mU N = mU M + 2 := by rw [hN]; rfl
    omega
  · have : mI M2 a = mI M1 a := by rw [hM2]; rfl
    rw [this]; exact (sN a (by omega)).2.1
theorem c_newPad {M : SM} {a : Nat} (hS : mS M = a + 1) (hK : mK M a = (17, 0)) : ∃ M', cl 10 [.ref a] M = some (none, M') ∧ mS M' = a + 2 ∧ mU M' = mU M + 80 ∧ (∀ b, b < a → S4 M M' b) ∧ mK M' a = (17, 0) ∧ mP M' a 0 = some (a + 1) ∧ mK M' (a + 1) = (1, 80) ∧ mI M' a = mI M a := by
  have e80 : (80 : Int32).toNatClampNeg = 80 := by decide
  have c80 : ((0 : Int32) ≤ 80 ∧ (80 : Int32) ≤ 100000) = True := by decide
  have ne1 : (a = a + 1) = False := eq_false (by omega)
  obtain ⟨B1, hB1⟩ : ∃ B, B = al M (1, 80) 80 a 0 (a + 1) := ⟨_, rfl⟩
  have SB1 : mS B1 = a + 2 := by rw [hB1]; exact al_S hS
  have K1 : mK B1 a = (17, 0) := by rw [hB1, al_K (by rw [hS]; omega)]; exact hK
  have w1 : rn 10 4 [some (.ref a)] [] M = rn 10 12 [some (.ref a)] [] B1 := by
    simp only [t10_4, t10_5, t10_7, t10_9, c80, e80, ↓reduceIte, nw_K, hS, ne1, hK]
    rw [hB1]; rfl
  have k1 : mK B1 (a + 1) = (1, 80) := by
    rw [hB1]
    exact al_Kx (by rw [hS])
  have pa : mP B1 a = va_up (mP M a) 0 (some (a + 1)) := by
    rw [hB1, al_P (by rw [hS]; omega)]
  have s4 : ∀ b, b < a → S4 M B1 b := fun b hb => by
    have z1 : S4 M B1 b := by rw [hB1]; exact al_4 (by omega) (by omega)
    exact z1
  have ij : mI B1 a = mI M a ∧ mJ B1 a = mJ M a := by
    have z1 : mI B1 a = mI M a ∧ mJ B1 a = mJ M a := by rw [hB1]; exact al_IJ (by omega)
    exact z1
  have hu : mU B1 = mU M + 80 := by
    rw [hB1, al_U]
  refine ⟨B1, ?_, SB1, hu, s4, K1, by rw [pa, va_up_self], k1, ij.1⟩
  show rn 10 0 [some (.ref a)] [] M = _
  simp only [t10_0, t10_1]
  rw [w1]
  simp only [t10_12]
theorem c_newReader {M : SM} {a : Nat} (hS : mS M = a + 1) (hK : mK M a = (16, 0)) : ∃ M', cl 9 [.ref a] M = some (none, M') ∧ mS M' = a + 3 ∧ mU M' ≤ mU M + 82 ∧ (∀ b, b < a → S4 M M' b) ∧ mK M' a = (16, 0) ∧ mP M' a 0 = some (a + 1) ∧ mK M' (a + 1) = (17, 0) ∧ mP M' (a + 1) 0 = some (a + 2) ∧ mK M' (a + 2) = (1, 80) ∧ mI M' (a + 1) = fun _ => 0 := by
  obtain ⟨N, hN⟩ : ∃ N, N = nw M (17, 0) 2 := ⟨_, rfl⟩
  have SN : mS N = a + 1 + 1 := by rw [hN, mS_nw, hS]
  obtain ⟨M1, x1, x2, x3, x4, x5, x6, x7, x8⟩ := c_newPad (M := N) (a := a + 1) SN (by rw [hN, nw_K, if_pos hS.symm])
  have z : mI M1 (a + 1) = fun _ => 0 := by rw [x8, hN, nw_I, if_pos hS.symm]
  have sN : ∀ b, b < a + 1 → S4 M M1 b := fun b hb => (by rw [hN] at x4; exact (S4.nw (by omega)).trans (x4 b hb))
  have k1 : mK M1 a = (16, 0) := (sN a (by omega)).1.trans hK
  obtain ⟨M2, hM2⟩ : ∃ M2, M2 = sP M1 a (va_up (mP M1 a) 0 (some (a + 1))) := ⟨_, rfl⟩
  have s12 : ∀ b, b ≠ a → S4 M1 M2 b := fun b hb => by rw [hM2]; exact S4.sP hb
  refine ⟨M2, ?_, by rw [hM2]; exact x2, ?_, fun b hb => (sN b (by omega)).trans (s12 b (by omega)), by rw [hM2]; exact k1, by rw [hM2, mP_sP, if_pos rfl, va_up_self], ?_, ?_, ?_, ?_⟩
  · show rn 9 0 [some (.ref a)] [] M = _
    simp only [t9_0, t9_1, t9_4, t9_5, t9_8, t9_9, hS]
    rw [← hN, x1]
    simp only [cbn_v, t9_12, t9_15, k1, ↓reduceIte]
    rw [← hM2]
  · have e2 : mU M2 = mU M1 := by rw [hM2]; rfl
    have e1 : mU N = mU M + 2 := by rw [hN]; rfl
    omega
  · rw [(s12 (a + 1) (by omega)).1]; exact x5
  · rw [(s12 (a + 1) (by omega)).2.2.2]; exact x6
  · rw [(s12 (a + 1 + 1) (by omega)).1]; exact x7
  · rw [(s12 (a + 1) (by omega)).2.1]; exact z
theorem c_newHist {M : SM} {a : Nat} (hS : mS M = a + 1) (hK : mK M a = (15, 0)) : ∃ M', cl 8 [.ref a] M = some (none, M') ∧ mS M' = a + 93 ∧ mU M' ≤ mU M + 3000 ∧ (∀ b, b < a → S4 M M' b) ∧ mK M' a = (15, 0) ∧ mP M' a 0 = some (a + 1) ∧ mK M' (a + 1) = (3, 7) ∧ mI M' a = mI M a ∧ ∀ i, i < 7 → mP M' (a + 1) i = some (a + 2 + 13 * i) ∧ StAt M' (a + 2 + 13 * i) := by
  have e7 : (7 : Int32).toNatClampNeg = 7 := by decide
  have c7 : ((0 : Int32) ≤ 7 ∧ (7 : Int32) ≤ 100000) = True := by decide
  have ne1 : (a = a + 1) = False := eq_false (by omega)
  obtain ⟨B1, hB1⟩ : ∃ B, B = al M (3, 7) 7 a 0 (a + 1) := ⟨_, rfl⟩
  have SB1 : mS B1 = a + 2 := by rw [hB1]; exact al_S hS
  have K1 : mK B1 a = (15, 0) := by rw [hB1, al_K (by rw [hS]; omega)]; exact hK
  have w1 : rn 8 4 [some (.ref a)] [] M = rn 8 13 [some (.ref a)] [] B1 := by
    simp only [t8_4, t8_5, t8_7, t8_10, c7, e7, ↓reduceIte, nw_K, hS, ne1, hK]
    rw [hB1]; rfl
  have k1 : mK B1 (a + 1) = (3, 7) := by
    rw [hB1]
    exact al_Kx (by rw [hS])
  have pa : mP B1 a = va_up (mP M a) 0 (some (a + 1)) := by
    rw [hB1, al_P (by rw [hS]; omega)]
  have s4 : ∀ b, b < a → S4 M B1 b := fun b hb => by
    have z1 : S4 M B1 b := by rw [hB1]; exact al_4 (by omega) (by omega)
    exact z1
  have ij : mI B1 a = mI M a ∧ mJ B1 a = mJ M a := by
    have z1 : mI B1 a = mI M a ∧ mJ B1 a = mJ M a := by rw [hB1]; exact al_IJ (by omega)
    exact z1
  have hu : mU B1 = mU M + 7 := by
    rw [hB1, al_U]
  have z0 : (0 : Int32) = nI 0 := rfl
  have lp : ∀ d k, d + k = 7 → ∀ N, mS N = a + 2 + 13 * k → mK N a = (15, 0) → mP N a 0 = some (a + 1) → mK N (a + 1) = (3, 7) → (∀ i, i < k → mP N (a + 1) i = some (a + 2 + 13 * i) ∧ StAt N (a + 2 + 13 * i)) →
      ∃ M', rn 8 15 [some (.ref a), some (.int (nI k))] [] N = some (none, M') ∧ mS M' = a + 93 ∧ mU M' ≤ mU N + 410 * d ∧ (∀ b, b < a + 1 → S4 N M' b) ∧ mK M' (a + 1) = (3, 7) ∧ ∀ i, i < 7 → mP M' (a + 1) i = some (a + 2 + 13 * i) ∧ StAt M' (a + 2 + 13 * i) := by
    intro d
    induction d with
    | zero =>
      intro k hk N n1 n2 n3 n4 n5
      obtain rfl : k = 7 := by omega
      refine ⟨N, ?_, by rw [n1], by omega, fun b hb => ⟨rfl, rfl, rfl, rfl⟩, n4, n5⟩
      have e : ((7 : Int32) ≤ nI 7) = True := by decide
      rw [t8_15]
      simp only [t8_16, t8_18, t8_40, e, ↓reduceIte]
    | succ d ih =>
      intro k hk N n1' n2 n3 n4 n5
      have e : ((7 : Int32) ≤ nI k) = False := by
        rw [show (7 : Int32) = nI 7 from rfl, i_le (by decide) (by omega)]
        exact eq_false (by omega)
      obtain ⟨N1, hN1⟩ : ∃ N1, N1 = nw N (11, 0) 2 := ⟨_, rfl⟩
      have SN : mS N1 = a + 2 + 13 * k + 1 := by rw [hN1, mS_nw, n1']
      obtain ⟨M1, x1, x2, x3, x4, x5, x6⟩ := c_newState (M := N1) (a := a + 2 + 13 * k) SN (by rw [hN1, nw_K, if_pos n1'.symm])
      have sN : ∀ b, b < a + 2 + 13 * k → S4 N M1 b := fun b hb => (by rw [hN1] at x4; exact (S4.nw (by omega)).trans (x4 b hb))
      obtain ⟨M2, hM2⟩ : ∃ M2, M2 = sP M1 (a + 1) (va_up (mP M1 (a + 1)) k (some (a + 2 + 13 * k))) := ⟨_, rfl⟩
      have s12 : ∀ b, b ≠ a + 1 → S4 M1 M2 b := fun b hb => by rw [hM2]; exact S4.sP hb
      have p2 : mP M2 (a + 1) = va_up (mP N (a + 1)) k (some (a + 2 + 13 * k)) := by
        rw [hM2, mP_sP, if_pos rfl, (sN (a + 1) (by omega)).2.2.2]
      have k2 : mK M2 (a + 1) = (3, 7) := by
        have : mK M2 (a + 1) = mK M1 (a + 1) := by rw [hM2]; rfl
        rw [this, (sN (a + 1) (by omega)).1]; exact n4
      obtain ⟨M', y1, y2, y3, y4, y5, y6⟩ := ih (k + 1) (by omega) M2 (by rw [hM2]; show mS M1 = _; rw [x2]; omega) (by rw [((sN a (by omega)).trans (s12 a (by omega))).1]; exact n2) (by rw [((sN a (by omega)).trans (s12 a (by omega))).2.2.2]; exact n3) k2 (by
        intro i hi
        rw [p2]
        by_cases q : i = k
        · subst q
          rw [va_up_self]
          exact ⟨rfl, x5.s4 (fun b h1 h2 => s12 b (by omega))⟩
        · rw [va_up_ne _ _ q]
          obtain ⟨u, v⟩ := n5 i (by omega)
          exact ⟨u, (v.s4 (fun b h1 h2 => sN b (by omega))).s4 (fun b h1 h2 => s12 b (by omega))⟩)
      refine ⟨M', ?_, y2, ?_, fun b hb => ?_, y5, y6⟩
      · have hin : inR (nI k) 7 = True := i_inT (by omega) (by decide)
        have kN1 : mK N1 (a + 1) = (3, 7) := by rw [hN1, nw_K, if_neg (by omega)]; exact n4
        have kM1 : mK M1 (a + 1) = (3, 7) := (sN (a + 1) (by omega)).1.trans n4
        have ao : (10 + aoC 3, 0) = ((11, 0) : Nat × Nat) := rfl
        rw [t8_15]
        simp only [t8_16, t8_18, t8_21, t8_22, t8_25, t8_26, t8_29, t8_30, e, n2, n3, va_rf_s, n1', ↓reduceIte]
        rw [← hN1, x1]
        simp only [cbn_v, t8_33, t8_34, t8_37, kM1, x5.1, ao, hin, and_self, true_or, nI_c (show k < 2147483648 by omega), n1, ↓reduceIte]
        rw [← hM2]
        exact y1
      · have e2 : mU M2 = mU M1 := by rw [hM2]; rfl
        have e1 : mU N1 = mU N + 2 := by rw [hN1]; rfl
        omega
      · by_cases q : b = a + 1
        · omega
        · exact ((sN b (by omega)).trans (s12 b q)).trans (y4 b hb)
  obtain ⟨M', y1, y2, y3, y4, y5, y6⟩ := lp 7 0 rfl B1 SB1 K1 (by rw [pa, va_up_self]) k1 (fun i hi => by omega)
  refine ⟨M', ?_, y2, by omega, fun b hb => (s4 b hb).trans (y4 b (by omega)), (y4 a (by omega)).1.trans K1, ?_, y5, (y4 a (by omega)).2.1.trans ij.1, y6⟩
  · show rn 8 0 [some (.ref a), none] [] M = _
    have w1' : rn 8 4 [some (.ref a), none] [] M = rn 8 13 [some (.ref a), none] [] B1 := by
      simp only [t8_4, t8_5, t8_7, t8_10, c7, e7, ↓reduceIte, nw_K, hS, ne1, hK]
      rw [hB1]; rfl
    simp only [t8_0, t8_1]
    rw [w1']
    simp only [t8_13, t8_14]
    exact y1
  · rw [(y4 a (by omega)).2.2.2, pa, va_up_self]
