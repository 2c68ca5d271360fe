/-! the law, from its start -/
theorem ClsAt.s5 {M N : SM} {S : Nat} (h : ClsAt M S) (e : ∀ b, b < S + 148 → S4 M N b) : ClsAt N S := by
  obtain ⟨a, b, c, d, f⟩ := h
  refine ⟨?_, b.s4 (fun b h1 h2 => e b (by omega)), ⟨?_, ?_, ?_, fun i hi => ⟨?_, (c.2.2.2 i hi).2.s4 (fun b h1 h2 => e b (by omega))⟩⟩, d.s4 (fun b h1 h2 => e b (by omega)), f.s4 (fun b h1 h2 => e b (by omega))⟩
  · rw [(e S (by omega)).1, (e S (by omega)).2.2.2]; exact a
  · rw [(e (S + 14) (by omega)).1]; exact c.1
  · rw [(e (S + 14) (by omega)).2.2.2]; exact c.2.1
  · rw [(e (S + 15) (by omega)).1]; exact c.2.2.1
  · rw [(e (S + 15) (by omega)).2.2.2]; exact (c.2.2.2 i hi).1
theorem R9_0 {M1 M2 : SM} {S b L : Nat} (hb : b < S) (hkb : mK M2 b = (5, L)) (hS : S + 155 ≤ mS M2) (h4 : ∀ b, b < S + 148 → S4 M1 M2 b) (hC : ClsAt M1 S) (c3 : INI M1 (S + 1)) (z14 : mI M1 (S + 14) = fun _ => 0)
    (hk : mK M2 (S + 148) = (1, 3) ∧ mK M2 (S + 149) = (1, 60) ∧ mK M2 (S + 150) = (1, 12) ∧ mK M2 (S + 151) = (1, 12) ∧ mK M2 (S + 152) = (1, 12) ∧ mK M2 (S + 153) = (1, 60) ∧ mK M2 (S + 154) = (1, 3))
    (q : mI M2 (S + 148) = fun _ => 0) (hT : TrR (mI M2 (S + 151)) D0 V0) : R9 M2 S b L 0 0 := by
  have hc3 : INI M2 (S + 1) := c3.s4 (fun b h1 h2 => h4 b (by omega))
  obtain ⟨i1, i2, i3⟩ := id hc3
  obtain ⟨W, hW⟩ : ∃ W, W = gW (fun _ => 0) (fun _ => 0) (fun _ => 0) D0 V0 0 0 := ⟨_, rfl⟩
  have w0 : W 0 = 0 := by rw [hW, gW_k (by decide) (by decide) (fun e he => by omega)]
  have w1 : W 1 = 0 := by rw [hW, gW_1]
  have wt : TR W D0 V0 := by rw [hW]; exact gW_t _ _ _ _ _ _ _
  have hr := i3 W w1 wt
  have hsr : SR M2 (S + 1) W 0 0 := by
    refine ⟨⟨i1, ?_⟩, hr⟩
    refine ⟨by decide, w0, fun e he => by omega, fun e he => by omega, fun e he => by omega, fun e _ => ?_, fun e he => by omega, fun e he => by omega, fun e he => by omega⟩
    rw [i2, bt_0]
  obtain ⟨-, -, -, -, -, -, -, -, r9, -⟩ := hr
  have eV : ∀ f, f < 16 → mI M2 (S + 1 + 7 + 5) f = V0 f := fun f hf => (r9 f hf).2.2.symm.trans (wt f hf).2.2
  have eD : ∀ f, f < 16 → mI M2 (S + 1 + 7 + 4) f = D0 f := fun f hf => (r9 f hf).2.1.symm.trans (wt f hf).2.1
  refine ⟨hC.s5 h4, ⟨0, 0, by decide, by decide, ?_, ?_⟩, ⟨W, hsr⟩, ⟨hb, hkb⟩, ?_, by decide, by decide, fun e he => by omega, fun f h1 h2 => ?_, ⟨?_, ?_, ?_⟩, fun e he => by omega, fun e he => by omega, fun f hf => ?_⟩
  · rw [(h4 (S + 14) (by omega)).2.1, z14]; rfl
  · rw [(h4 (S + 14) (by omega)).2.1, z14]; rfl
  · obtain ⟨k1, k2, k3, k4, k5, k6, k7⟩ := hk
    exact ⟨k1, k2, k3, k4, k5, k6, k7, hS⟩
  · rw [eV f h2]
    exact if_neg (by omega)
  · rw [q]; rfl
  · rw [q]; rfl
  · rw [q, i2]; decide
  · rw [eV f (by omega), eD f (by omega)]
    exact hT f hf
theorem pure_law {b S L : Nat} {xs : Nat → Int32} (hL : L ≤ 260) (hb : b < S) : ∃ M2 : SM, cl 87 [.ref b] (M0 b S L xs) = some (some (.int 1), M2) ∧ mS M2 ≤ 600000 + S ∧ mU M2 ≤ 7302250 := by
  obtain ⟨N0, hN0⟩ : ∃ N, N = M0 b S L xs := ⟨_, rfl⟩
  have s0 : mS N0 = S := by rw [hN0]; rfl
  have u0 : mU N0 = 0 := by rw [hN0]; rfl
  have k0 : mK N0 b = (5, L) := by rw [hN0]; exact if_pos rfl
  obtain ⟨N1, hN1⟩ : ∃ N, N = nw N0 (10, 0) 6 := ⟨_, rfl⟩
  have f01 : S4 N0 N1 b := by rw [hN1]; exact S4.nw (by omega)
  have uN1 : mU N1 = 6 := by rw [hN1, mU_nw, u0]
  obtain ⟨M1, a1, a2, a3, a4, c1, c2, c3, c4, c5, c6, c7, c8, c9, z14, z108⟩ := c_newAll (M := N1) (S := S) (by rw [hN1, mS_nw, s0]) (by rw [hN1, nw_K, if_pos s0.symm])
  have hC : ClsAt M1 S := ⟨⟨c1.1, c1.2.1, c1.2.2.1, c1.2.2.2.2.2.2.1, c1.2.2.2.2.2.2.2⟩, c2, c4, c8, c9⟩
  obtain ⟨A1, hA1⟩ : ∃ N, N = nw M1 (1, 3) 3 := ⟨_, rfl⟩
  obtain ⟨A2, hA2⟩ : ∃ N, N = nw A1 (1, 60) 60 := ⟨_, rfl⟩
  obtain ⟨A3, hA3⟩ : ∃ N, N = nw A2 (1, 12) 12 := ⟨_, rfl⟩
  obtain ⟨A4, hA4⟩ : ∃ N, N = nw A3 (1, 12) 12 := ⟨_, rfl⟩
  obtain ⟨A5, hA5⟩ : ∃ N, N = nw A4 (1, 12) 12 := ⟨_, rfl⟩
  obtain ⟨A6, hA6⟩ : ∃ N, N = nw A5 (1, 60) 60 := ⟨_, rfl⟩
  obtain ⟨A7, hA7⟩ : ∃ N, N = nw A6 (1, 3) 3 := ⟨_, rfl⟩
  have S1 : mS A1 = S + 149 := by rw [hA1, mS_nw, a2]
  have S2 : mS A2 = S + 150 := by rw [hA2, mS_nw, S1]
  have S3 : mS A3 = S + 151 := by rw [hA3, mS_nw, S2]
  have S4' : mS A4 = S + 152 := by rw [hA4, mS_nw, S3]
  have S5 : mS A5 = S + 153 := by rw [hA5, mS_nw, S4']
  have S6 : mS A6 = S + 154 := by rw [hA6, mS_nw, S5]
  have S7 : mS A7 = S + 155 := by rw [hA7, mS_nw, S6]
  have U1 : mU A1 = mU M1 + 3 := by rw [hA1, mU_nw]
  have U2 : mU A2 = mU A1 + 60 := by rw [hA2, mU_nw]
  have U3 : mU A3 = mU A2 + 12 := by rw [hA3, mU_nw]
  have U4 : mU A4 = mU A3 + 12 := by rw [hA4, mU_nw]
  have U5 : mU A5 = mU A4 + 12 := by rw [hA5, mU_nw]
  have U6 : mU A6 = mU A5 + 60 := by rw [hA6, mU_nw]
  have U7 : mU A7 = mU A6 + 3 := by rw [hA7, mU_nw]
  have t1 : ∀ b, b < S + 148 → S4 M1 A1 b := fun b hb => by rw [hA1]; exact S4.nw (by omega)
  have t2 : ∀ b, b < S + 149 → S4 A1 A2 b := fun b hb => by rw [hA2]; exact S4.nw (by omega)
  have t3 : ∀ b, b < S + 150 → S4 A2 A3 b := fun b hb => by rw [hA3]; exact S4.nw (by omega)
  have t4 : ∀ b, b < S + 151 → S4 A3 A4 b := fun b hb => by rw [hA4]; exact S4.nw (by omega)
  have t5 : ∀ b, b < S + 152 → S4 A4 A5 b := fun b hb => by rw [hA5]; exact S4.nw (by omega)
  have t6 : ∀ b, b < S + 153 → S4 A5 A6 b := fun b hb => by rw [hA6]; exact S4.nw (by omega)
  have t7 : ∀ b, b < S + 154 → S4 A6 A7 b := fun b hb => by rw [hA7]; exact S4.nw (by omega)
  have v6 : ∀ b, b < S + 153 → S4 A5 A7 b := fun b hb => (t6 b hb).trans (t7 b (by omega))
  have v5 : ∀ b, b < S + 152 → S4 A4 A7 b := fun b hb => (t5 b hb).trans (v6 b (by omega))
  have v4 : ∀ b, b < S + 151 → S4 A3 A7 b := fun b hb => (t4 b hb).trans (v5 b (by omega))
  have v3 : ∀ b, b < S + 150 → S4 A2 A7 b := fun b hb => (t3 b hb).trans (v4 b (by omega))
  have v2 : ∀ b, b < S + 149 → S4 A1 A7 b := fun b hb => (t2 b hb).trans (v3 b (by omega))
  have v1 : ∀ b, b < S + 148 → S4 M1 A7 b := fun b hb => (t1 b hb).trans (v2 b (by omega))
  have K1 : mK A7 (S + 148) = (1, 3) := (v2 _ (by omega)).1.trans (by rw [hA1, nw_K, if_pos a2.symm])
  have K2 : mK A7 (S + 149) = (1, 60) := (v3 _ (by omega)).1.trans (by rw [hA2, nw_K, if_pos S1.symm])
  have K3 : mK A7 (S + 150) = (1, 12) := (v4 _ (by omega)).1.trans (by rw [hA3, nw_K, if_pos S2.symm])
  have K4 : mK A7 (S + 151) = (1, 12) := (v5 _ (by omega)).1.trans (by rw [hA4, nw_K, if_pos S3.symm])
  have K5 : mK A7 (S + 152) = (1, 12) := (v6 _ (by omega)).1.trans (by rw [hA5, nw_K, if_pos S4'.symm])
  have K6 : mK A7 (S + 153) = (1, 60) := (t7 _ (by omega)).1.trans (by rw [hA6, nw_K, if_pos S5.symm])
  have K7 : mK A7 (S + 154) = (1, 3) := by rw [hA7, nw_K, if_pos S6.symm]
  have I1 : mI A7 (S + 148) = fun _ => 0 := (v2 _ (by omega)).2.1.trans (by rw [hA1, nw_I, if_pos a2.symm])
  obtain ⟨T, hT1, hT2⟩ := c_root3 (M := A7) (t := S + 151) K4
  obtain ⟨M2, hM2⟩ : ∃ N, N = sI A7 (S + 151) T := ⟨_, rfl⟩
  rw [← hM2] at hT1
  have e2 : M2.2.2 = A7.2.2 := by rw [hM2]; rfl
  have eS : mS M2 = S + 155 := (congrArg (fun z => z.2.2.1) e2).trans S7
  have eU : mU M2 = mU A7 := congrArg (fun z => z.2.2.2) e2
  have fI : ∀ b, b ≠ S + 151 → mI M2 b = mI A7 b := fun b hb => by rw [hM2, mI_sI, if_neg hb]
  have w4 : ∀ b, b < S + 148 → S4 M1 M2 b := fun b hb => (v1 b hb).trans ⟨by rw [KK e2], fI b (by omega), by rw [hM2]; rfl, by rw [PK e2]⟩
  have fb : S4 N0 M2 b := (f01.trans (a4 b hb)).trans (w4 b (by omega))
  have h9 : R9 M2 S b L 0 0 := R9_0 hb (fb.1.trans k0) (by omega) w4 hC c3 z14 (by rw [KK e2]; exact ⟨K1, K2, K3, K4, K5, K6, K7⟩) (by rw [fI _ (by omega)]; exact I1) (by rw [hM2, mI_sI, if_pos rfl]; exact hT2)
  obtain ⟨M3, r1, r2, r3⟩ := law_loop hL 24 0 (by decide) M2 0 0 none none none none none none none none none none none none h9 (by decide)
  refine ⟨M3, ?_, by omega, by omega⟩
  rw [← hN0]
  show rn 87 0 [some (.ref b), none, none, none, none, none, none, none, none, none, none, none, none, none, none, none, none, none, none, none, none, none] [] N0 = _
  have z : nI 0 = 0 := rfl
  rw [z] at r1
  have n3 : (3 : Int32).toNatClampNeg = 3 := by decide
  have n60 : (60 : Int32).toNatClampNeg = 60 := by decide
  have n12 : (12 : Int32).toNatClampNeg = 12 := by decide
  have b3 : ((0 : Int32) ≤ 3 ∧ (3 : Int32) ≤ 100000) = True := by decide
  have b60 : ((0 : Int32) ≤ 60 ∧ (60 : Int32) ≤ 100000) = True := by decide
  have b12 : ((0 : Int32) ≤ 12 ∧ (12 : Int32) ≤ 100000) = True := by decide
  simp only [t87_0, t87_3, t87_4, s0]
  rw [← hN1, a1]
  simp only [cbn_v, t87_7, t87_8, t87_9, b3, n3, ↓reduceIte, a2]
  rw [← hA1]
  simp only [t87_11, t87_12, t87_14, b60, n60, ↓reduceIte, S1]
  rw [← hA2]
  simp only [t87_16, t87_17, t87_19, b12, n12, ↓reduceIte, S2]
  rw [← hA3]
  simp only [t87_21, t87_23, t87_25, b12, n12, ↓reduceIte, S3]
  rw [← hA4]
  simp only [t87_27, t87_29, t87_31, b12, n12, ↓reduceIte, S4']
  rw [← hA5]
  simp only [t87_33, t87_35, t87_37, b60, n60, ↓reduceIte, S5]
  rw [← hA6]
  simp only [t87_39, t87_41, t87_42, b3, n3, ↓reduceIte, S6]
  rw [← hA7]
  simp only [t87_44, t87_46, t87_48, t87_51, t87_52, hT1, cbn_v]
  exact r1
