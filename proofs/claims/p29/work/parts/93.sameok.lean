/-! the comparison, whole -/
theorem same_ok {M : SM} {S sb L n R : Nat} (h : R9 M S sb L n R) : ∃ M', cl 69 [.ref S, .ref (S + 148), .ref (S + 149), .ref (S + 150), .ref (S + 151), .ref (S + 152), .ref (S + 153), .ref (S + 154)] M = some (some (.int 1), M') ∧ R9 M' S sb L n R ∧ mS M' = mS M + 1 ∧ mU M' = mU M + 12 := by
  have hF := Fq.refl M S
  have n12 : n ≤ 12 := h.2.2.2.2.2.1
  obtain ⟨hb, hl, hlo, hrb, hrp, hrf, hrd, hwd, hti, hro⟩ := h.s
  have wlo : w12 (mJ M (S + 1 + 1) 1) := w12_of hlo n12
  have one0 : ((1 : Int32) = 0) = False := by decide
  have z01 : ((0 : Int32) = 1) = False := by decide
  have lnk : ∀ x, x ≤ 12 → (nI n ≤ nI x) = (n ≤ x) := fun x hx => lE (by omega) (by omega)
  have hB : S + 155 ≤ mS M := h.2.2.2.2.1.2.2.2.2.2.2.2
  have hstart := s_start h
  obtain ⟨N1, j15, j16, j17, j18, hF1, g1⟩ := e_all h n 0 (by omega) M hF none none none none none none none none none
  rw [show wst (mJ M (S + 1 + 1) 1) (fun k => cnt (bt (orpB (mJ M (S + 1 + 1 + 5)) n (mJ M (S + 1 + 1) 1 ||| bE k))) 64) 0 = (-6, -6) from rfl, show m32 (fun e => !decide (mI M (S + 1 + 7 + 1) e < 0)) 0 = 0 from rfl, show m32 (fun e => !decide (mI M (S + 1 + 7 + 2) e ≤ 0)) 0 = 0 from rfl, show nI 0 = 0 from rfl] at g1
  simp only [↓reduceIte] at g1
  obtain ⟨k16, k17, g2⟩ := r_all h hF1 (some (.int (s32 (mJ M (S + 1 + 1) 1)))) (some (.int (s32 (orpB (mJ M (S + 1 + 1 + 5)) n (mJ M (S + 1 + 1) 1))))) (some (.int (m32 (fun e => !decide (mI M (S + 1 + 7 + 1) e < 0)) n))) (some (.int (m32 (fun e => !decide (mI M (S + 1 + 7 + 2) e ≤ 0)) n))) (some (.int ((wst (mJ M (S + 1 + 1) 1) (fun k => cnt (bt (orpB (mJ M (S + 1 + 1 + 5)) n (mJ M (S + 1 + 1) 1 ||| bE k))) 64) (n)).1))) (some (.int (if (wst (mJ M (S + 1 + 1) 1) (fun k => cnt (bt (orpB (mJ M (S + 1 + 1 + 5)) n (mJ M (S + 1 + 1) 1 ||| bE k))) 64) (n)).1 = -6 then -1 else (wst (mJ M (S + 1 + 1) 1) (fun k => cnt (bt (orpB (mJ M (S + 1 + 1 + 5)) n (mJ M (S + 1 + 1) 1 ||| bE k))) 64) (n)).2))) (some (.int (nI n))) j15 j16 j17 j18 none none none none none
  obtain ⟨f17, f18, f19, f20, f21, f22, f23, g3⟩ := f_all h hF1 (some (.int (s32 (mJ M (S + 1 + 1) 1)))) (some (.int (s32 (orpB (mJ M (S + 1 + 1 + 5)) n (mJ M (S + 1 + 1) 1))))) (some (.int (m32 (fun e => !decide (mI M (S + 1 + 7 + 1) e < 0)) n))) (some (.int (m32 (fun e => !decide (mI M (S + 1 + 7 + 2) e ≤ 0)) n))) (some (.int ((wst (mJ M (S + 1 + 1) 1) (fun k => cnt (bt (orpB (mJ M (S + 1 + 1 + 5)) n (mJ M (S + 1 + 1) 1 ||| bE k))) 64) (n)).1))) (some (.int (if (wst (mJ M (S + 1 + 1) 1) (fun k => cnt (bt (orpB (mJ M (S + 1 + 1 + 5)) n (mJ M (S + 1 + 1) 1 ||| bE k))) 64) (n)).1 = -6 then -1 else (wst (mJ M (S + 1 + 1) 1) (fun k => cnt (bt (orpB (mJ M (S + 1 + 1 + 5)) n (mJ M (S + 1 + 1) 1 ||| bE k))) 64) (n)).2))) (some (.int (nI (wdN (mI M (S + 1 + 7 + 1)) n R)))) (some (.int (nI R))) k16 k17 j18 none none none none none
  obtain ⟨Y, P, X0, g4, y1, y2, y3, y4⟩ := d_copy h hF1 none (some (.int (s32 (orpB (mJ M (S + 1 + 1 + 5)) n (mJ M (S + 1 + 1) 1))))) (some (.int (m32 (fun e => !decide (mI M (S + 1 + 7 + 1) e < 0)) n))) (some (.int (m32 (fun e => !decide (mI M (S + 1 + 7 + 2) e ≤ 0)) n))) (some (.int ((wst (mJ M (S + 1 + 1) 1) (fun k => cnt (bt (orpB (mJ M (S + 1 + 1 + 5)) n (mJ M (S + 1 + 1) 1 ||| bE k))) 64) (n)).1))) (some (.int (if (wst (mJ M (S + 1 + 1) 1) (fun k => cnt (bt (orpB (mJ M (S + 1 + 1 + 5)) n (mJ M (S + 1 + 1) 1 ||| bE k))) 64) (n)).1 = -6 then -1 else (wst (mJ M (S + 1 + 1) 1) (fun k => cnt (bt (orpB (mJ M (S + 1 + 1 + 5)) n (mJ M (S + 1 + 1) 1 ||| bE k))) 64) (n)).2))) (some (.int (nI (wdN (mI M (S + 1 + 7 + 1)) n R)))) (some (.int (nI (cnt (fun f => !decide (mI M (S + 1 + 7 + 5) f = -6)) 6)))) (some (.int (nI 6))) f17 f18 f19 f20 f21 f22 f23
  obtain ⟨N2, hN2⟩ : ∃ N2, N2 = sI (sI N1 (S + 153) Y) (S + 154) P := ⟨_, rfl⟩
  rw [← hN2] at g4
  have hF2 : Fq M N2 S := by rw [hN2]; exact (hF1.trans (Fq.sI _ (by omega))).trans (Fq.sI _ (by omega))
  have e12 : N2.2.2 = N1.2.2 := by rw [hN2]; rfl
  obtain ⟨s0, hs0⟩ : ∃ s0 : (Nat → Int32) × (Nat → Int32), s0 = (fl (mI N1 (S + 117 + 1)) 16 (-6), va_up (fl (mI N1 (S + 117 + 2)) 16 (-6)) 0 0) := ⟨_, rfl⟩
  have s0D : ∀ f, f < 16 → s0.1 f = -6 := fun f hf => by rw [hs0]; exact if_pos hf
  have s0V : s0.2 0 = 0 := by
    rw [hs0]
    show va_up (fl (mI N1 (S + 117 + 2)) 16 (-6)) 0 0 0 = 0
    exact va_up_self _ _ _
  have s0W : ∀ f, 0 < f → f < 16 → s0.2 f = -6 := fun f h0 hf => by
    rw [hs0]
    show va_up (fl (mI N1 (S + 117 + 2)) 16 (-6)) 0 0 f = -6
    rw [va_up_ne _ _ (by omega)]; exact if_pos hf
  obtain ⟨X', g5, x1, x2, x3⟩ := d_write h hF2 (s0 := s0) none (some (.int (s32 (orpB (mJ M (S + 1 + 1 + 5)) n (mJ M (S + 1 + 1) 1))))) (some (.int (m32 (fun e => !decide (mI M (S + 1 + 7 + 1) e < 0)) n))) (some (.int (m32 (fun e => !decide (mI M (S + 1 + 7 + 2) e ≤ 0)) n))) (some (.int ((wst (mJ M (S + 1 + 1) 1) (fun k => cnt (bt (orpB (mJ M (S + 1 + 1 + 5)) n (mJ M (S + 1 + 1) 1 ||| bE k))) 64) (n)).1))) (some (.int (if (wst (mJ M (S + 1 + 1) 1) (fun k => cnt (bt (orpB (mJ M (S + 1 + 1 + 5)) n (mJ M (S + 1 + 1) 1 ||| bE k))) 64) (n)).1 = -6 then -1 else (wst (mJ M (S + 1 + 1) 1) (fun k => cnt (bt (orpB (mJ M (S + 1 + 1 + 5)) n (mJ M (S + 1 + 1) 1 ||| bE k))) 64) (n)).2))) (some (.int (nI (wdN (mI M (S + 1 + 7 + 1)) n R)))) (some (.int (nI (cnt (fun f => !decide (mI M (S + 1 + 7 + 5) f = -6)) 6)))) (some (.int (0))) f17 f18 f19 f20 f21 f22 f23 n 0 (by omega) X0 (TrR_e y4 s0D s0V s0W) (TI_e s0D s0V s0W) (Six_e s0W)
  rw [show nI 0 = 0 from rfl] at g5
  obtain ⟨N3, hN3⟩ : ∃ N3, N3 = sI N2 (S + 152) X' := ⟨_, rfl⟩
  rw [← hN3] at g5
  have hF3 : Fq M N3 S := by rw [hN3]; exact hF2.trans (Fq.sI _ (by omega))
  have e3 : N3.2.2 = M.2.2 := hF3.1
  have mS3 : mS N3 = mS M := congrArg (fun z => z.2.2.1) e3
  have mU3 : mU N3 = mU M := congrArg (fun z => z.2.2.2) e3
  obtain ⟨B, hBB⟩ : ∃ B, B = mS N3 := ⟨_, rfl⟩
  have hB5 : S + 155 ≤ B := by omega
  obtain ⟨N4, hN4⟩ : ∃ N4, N4 = nw N3 (1, 12) 12 := ⟨_, rfl⟩
  have s34 : ∀ b, b < B → S4 N3 N4 b := fun b hb => by rw [hN4]; exact S4.nw (by omega)
  have h4 : R9 N4 S sb L n R := (h.q hF3).s4 (fun b hb => s34 b (by omega)) (by rw [hN4, mS_nw]; omega)
  have kB4 : mK N4 B = (1, 12) := by rw [hN4, nw_K, if_pos hBB]
  obtain ⟨⟨kq3, ke3, kd3, kt3, ko3, ky3, kp3⟩, -, -, De3, -, k03⟩ := h.n hF3
  have ky4 : mK N4 (S + 153) = (1, 60) := (s34 _ (by omega)).1.trans ky3
  have kp4 : mK N4 (S + 154) = (1, 3) := (s34 _ (by omega)).1.trans kp3
  have r153 : mI N4 (S + 153) = Y := by
    rw [(s34 (S + 153) (by omega)).2.1, hN3, mI_sI, if_neg (by omega), hN2, mI_sI, if_neg (by omega), mI_sI, if_pos rfl]
  have r154 : mI N4 (S + 154) = P := by
    rw [(s34 (S + 154) (by omega)).2.1, hN3, mI_sI, if_neg (by omega), hN2, mI_sI, if_pos rfl]
  have r152 : mI N4 (S + 152) = X' := by
    rw [(s34 (S + 152) (by omega)).2.1, hN3, mI_sI, if_pos rfl]
  obtain ⟨E', T', g6, t1, t2⟩ := c_anew3 (M := N4) (q := S + 154) (E := S + 153) (t := B) kp4 ky4 kB4 (by omega) (by omega) (by omega) n12 (by rw [r154]; exact y2) (by rw [r153]; exact y1)
  obtain ⟨Q0, hQ0⟩ : ∃ Q0, Q0 = sI (sI (sI N4 (S + 153) E') (S + 154) (va_up (mI N4 (S + 154)) 1 0)) B T' := ⟨_, rfl⟩
  rw [← hQ0] at g6
  have eQ0 : Q0.2.2 = N4.2.2 := by rw [hQ0]; rfl
  have q0B : mI Q0 B = T' := by rw [hQ0, mI_sI, if_pos rfl]
  have q0p : mI Q0 (S + 154) = va_up P 1 0 := by rw [hQ0, mI_sI, if_neg (by omega), mI_sI, if_pos rfl, r154]
  have q0e : mI Q0 (S + 153) = E' := by rw [hQ0, mI_sI, if_neg (by omega), mI_sI, if_neg (by omega), mI_sI, if_pos rfl]
  have q0s : ∀ b, b ≠ S + 153 → b ≠ S + 154 → b ≠ B → Same N4 Q0 b := fun b h1 h2 h3 => ⟨by rw [hQ0, mI_sI, if_neg h3, mI_sI, if_neg h2, mI_sI, if_neg h1], by rw [hQ0]; rfl⟩
  -- the trial
  obtain ⟨w1, hw1⟩ := (h.q hF1).2.2.1
  have hC1 := (h.q hF1).1
  obtain ⟨j, j40, ja, jb, -, -⟩ := c_try hC1 hw1
  obtain ⟨c1, c2, c3, c4⟩ := clr_rows N1 (S + 111)
  obtain ⟨Q, g7, eQ, qs, q7, q8⟩ := d_rounds h hF1 hB5 j40 ja jb (some (.int (s32 (mJ M (S + 1 + 1) 1)))) (some (.int (s32 (orpB (mJ M (S + 1 + 1 + 5)) n (mJ M (S + 1 + 1) 1))))) (some (.int (m32 (fun e => !decide (mI M (S + 1 + 7 + 1) e < 0)) n))) (some (.int (m32 (fun e => !decide (mI M (S + 1 + 7 + 2) e ≤ 0)) n))) (some (.int ((wst (mJ M (S + 1 + 1) 1) (fun k => cnt (bt (orpB (mJ M (S + 1 + 1 + 5)) n (mJ M (S + 1 + 1) 1 ||| bE k))) 64) (n)).1))) (some (.int (if (wst (mJ M (S + 1 + 1) 1) (fun k => cnt (bt (orpB (mJ M (S + 1 + 1 + 5)) n (mJ M (S + 1 + 1) 1 ||| bE k))) 64) (n)).1 = -6 then -1 else (wst (mJ M (S + 1 + 1) 1) (fun k => cnt (bt (orpB (mJ M (S + 1 + 1 + 5)) n (mJ M (S + 1 + 1) 1 ||| bE k))) 64) (n)).2))) (some (.int (nI (wdN (mI M (S + 1 + 7 + 1)) n R)))) (some (.int (nI (cnt (fun f => !decide (mI M (S + 1 + 7 + 5) f = -6)) 6)))) (some (.int (0))) (some (.ref B)) f18 f19 f20 f21 f22 f23 j 0 (by omega) Q0 (by rw [KK eQ0, (s34 _ (by omega)).1]; exact kq3) (by rw [KK eQ0]; exact ky4) (by rw [KK eQ0]; exact kp4) (by rw [KK eQ0, (s34 _ (by omega)).1]; exact kd3) (by rw [KK eQ0]; exact kB4)
    (by rw [q0p]; exact ⟨by rw [va_up_ne _ _ (by decide)]; exact y2, va_up_self _ _ _, by rw [va_up_ne _ _ (by decide)]; exact y3⟩)
    (by
      rw [q0e]
      intro e he
      obtain ⟨a0, a1, a2, a3, a4⟩ := t1 e he
      exact ⟨a0, a1, a2, a3.trans (c1 e (by omega)).1.symm, a4.trans (c1 e (by omega)).2.symm⟩)
    (by rw [(q0s (S + 150) (by omega) (by omega) (by omega)).1, (s34 (S + 150) (by omega)).2.1]; exact De3)
    (by rw [q0B]; exact TrR_e t2 c2 c3 c4) (Six_e c4)
  have eQ4 : Q.2.2 = N4.2.2 := eQ.trans eQ0
  have hFQ : Fq N4 Q S := ⟨eQ4, fun b hb => by
    have a := q0s b (by omega) (by omega) (by omega)
    have c := qs b (by omega) (by omega) (by omega)
    exact ⟨c.1.trans a.1, c.2.trans a.2⟩⟩
  -- what the class answers
  have hQ := h4.q hFQ
  obtain ⟨wq, hwq⟩ := hQ.2.2.1
  obtain ⟨j', s0', M3, b1, b2, b3, b4, b5, b6, b7, b8, b9⟩ := a_unlike hQ.1 hwq
  have same1 : ∀ b, b < S + 120 → Same N1 Q b := fun b hb => by
    have a := q0s b (by omega) (by omega) (by omega)
    have c := qs b (by omega) (by omega) (by omega)
    have d := s34 b (by omega)
    have e : mI N3 b = mI N1 b := by rw [hN3, mI_sI, if_neg (by omega), hN2, mI_sI, if_neg (by omega), mI_sI, if_neg (by omega)]
    have e' : mJ N3 b = mJ N1 b := by rw [hN3, hN2]; rfl
    exact ⟨((c.1.trans a.1).trans d.2.1).trans e, ((c.2.trans a.2).trans d.2.2.1).trans e'⟩
  have loc := itR_loc (M := N1) (N := Q) (r := S + 111) (h := S + 1 + 1) (n := n) (by omega) (fun b hb => same1 b (by omega))
  have jj : j' = j := by
    rcases Nat.lt_trichotomy j' j with z | z | z
    · exact absurd b3 (by rw [(loc j').1]; exact ja j' z)
    · exact z
    · exact absurd jb (by rw [← (loc j).1]; exact b2 j z)
  subst jj
  obtain ⟨u0, u1, u2, u3, u4, u5, u6, u7, u8, u9, u10, u11, -⟩ := hF1.rows
  have rK : mI Q (S + 1 + 1 + 1) = mI M (S + 1 + 1 + 1) := (same1 _ (by omega)).1.trans u0
  have rF : mI Q (S + 1 + 1 + 2) = mI M (S + 1 + 1 + 2) := (same1 _ (by omega)).1.trans u1
  have rA : mI Q (S + 1 + 1 + 3) = mI M (S + 1 + 1 + 3) := (same1 _ (by omega)).1.trans u2
  have rL : mJ Q (S + 1 + 1) = mJ M (S + 1 + 1) := (same1 _ (by omega)).2.trans u5
  have r0' : s0' = s0 := by rw [b4, hs0, (same1 (S + 117 + 1) (by omega)).1, (same1 (S + 117 + 2) (by omega)).1]
  rw [rK, rF, rA, rL, r0', ((loc j').2 (S + 111 + 4) (by omega)).1, ((loc j').2 (S + 111 + 5) (by omega)).1] at b9
  obtain ⟨wt, -, hrr⟩ := t_dat hw1 j' (by omega)
  obtain ⟨-, -, -, tiT⟩ := RR_dat hrr (by omega)
  have qX : TrR (mI Q (S + 152)) (woT (mI M (S + 1 + 1 + 1)) (mI M (S + 1 + 1 + 2)) (mI M (S + 1 + 1 + 3)) (mJ M (S + 1 + 1) 1) s0 n).1 (woT (mI M (S + 1 + 1 + 1)) (mI M (S + 1 + 1 + 2)) (mI M (S + 1 + 1 + 3)) (mJ M (S + 1 + 1) 1) s0 n).2 := by
    have a := q0s (S + 152) (by omega) (by omega) (by omega)
    have c := qs (S + 152) (by omega) (by omega) (by omega)
    rw [c.1, a.1, r152]
    exact x1
  have huu := unl_eq qX q7 tiT q8 x2 x3
  rw [huu] at b9
  obtain ⟨u, hu⟩ : ∃ u, u = m32 (fun g => decide (¬ (mI Q (S + 152) (2 * g) = mI Q B (2 * g) ∧ mI Q (S + 152) (2 * g + 1) = mI Q B (2 * g + 1)))) 6 := ⟨_, rfl⟩
  rw [← hu] at b9
  have g8 := d_bits (Q := Q) (S := S) (B := B) (by rw [KK eQ4, (s34 _ (by omega)).1]; exact ko3) (by rw [KK eQ4]; exact kB4) (some (.int (s32 (mJ M (S + 1 + 1) 1)))) (some (.int (s32 (orpB (mJ M (S + 1 + 1 + 5)) n (mJ M (S + 1 + 1) 1))))) (some (.int (m32 (fun e => !decide (mI M (S + 1 + 7 + 1) e < 0)) n))) (some (.int (m32 (fun e => !decide (mI M (S + 1 + 7 + 2) e ≤ 0)) n))) (some (.int ((wst (mJ M (S + 1 + 1) 1) (fun k => cnt (bt (orpB (mJ M (S + 1 + 1 + 5)) n (mJ M (S + 1 + 1) 1 ||| bE k))) 64) (n)).1))) (some (.int (if (wst (mJ M (S + 1 + 1) 1) (fun k => cnt (bt (orpB (mJ M (S + 1 + 1 + 5)) n (mJ M (S + 1 + 1) 1 ||| bE k))) 64) (n)).1 = -6 then -1 else (wst (mJ M (S + 1 + 1) 1) (fun k => cnt (bt (orpB (mJ M (S + 1 + 1 + 5)) n (mJ M (S + 1 + 1) 1 ||| bE k))) 64) (n)).2))) (some (.int (nI (wdN (mI M (S + 1 + 7 + 1)) n R)))) (some (.int (nI (cnt (fun f => !decide (mI M (S + 1 + 7 + 5) f = -6)) 6)))) (some (.int (0))) (some (.ref B)) f18 f19 f20 f21 f22 f23
  rw [← hu] at g8
  have hFM : Fq N4 M3 S := hFQ.trans (Fq.of b8 (by omega))
  obtain ⟨v0, v1, v2, v3, v4, v5, v6, v7, v8, v9, v10, v11, v12, v13, v14, v15, v16⟩ := hF3.rows
  have i : ∀ b, b < S + 155 → mI N4 b = mI N3 b := fun b hb => (s34 b (by omega)).2.1
  have jq : ∀ b, b < S + 155 → mJ N4 b = mJ N3 b := fun b hb => (s34 b (by omega)).2.2.1
  obtain ⟨pd, pr, -, -⟩ := m32_rp h.s n12
  have g9 := s_end h4 hFQ hFM b9 none none none none none none none none none (some (.ref B)) (some (.int (nI 12))) f19 f20 f21 f22 f23
  rw [jq (S + 1 + 1) (by omega), jq (S + 1 + 1 + 5) (by omega), jq (S + 1 + 7) (by omega), i (S + 1 + 7 + 1) (by omega), i (S + 1 + 7 + 5) (by omega), v5, v4, v6, v8, v11, ← pd, ← pr] at g9
  refine ⟨M3, ?_, h4.q hFM, ?_, ?_⟩
  · have cl12 : (12 : Int32).toNatClampNeg = 12 := by decide
    have rng : ((0 : Int32) ≤ 12 ∧ (12 : Int32) ≤ 100000) = True := by decide
    rw [hstart, g1, g2, g3, g4, g5]
    simp only [t69_899, t69_900, t69_902, t69_904, t69_906, t69_908, t69_910, t69_912, t69_914, rng, ↓reduceIte, cl12]
    rw [← hN4, ← hBB, g6]
    simp only [cbn_v]
    rw [g7, g8]
    exact g9
  · have a : mS M3 = mS N4 := congrArg (fun z => z.2.2.1) hFM.1
    rw [a, hN4, mS_nw, mS3]
  · have a : mU M3 = mU N4 := congrArg (fun z => z.2.2.2) hFM.1
    rw [a, hN4, mU_nw, mU3]
