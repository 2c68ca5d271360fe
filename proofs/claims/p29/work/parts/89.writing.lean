/-! the law's comparison: the tree of the order of writing -/
theorem TrR_e {T D V : Nat → Int32} (hT : TrR T D0 V0) (hD : ∀ f, f < 16 → D f = -6) (h0 : V 0 = 0) (hV : ∀ f, 0 < f → f < 16 → V f = -6) : TrR T D V := by
  intro f hf
  obtain ⟨a, b⟩ := hT f hf
  simp only [D0, V0] at a b
  rw [hD f (by omega)]
  by_cases q : f = 0
  · subst q
    rw [h0]
    simp only [↓reduceIte, (by decide : ((0 : Int32) = -6) = False)] at a b ⊢
    exact ⟨a, b⟩
  · rw [hV f (by omega) (by omega)]
    simp only [if_neg q, ↓reduceIte] at a b ⊢
    exact ⟨a, b⟩
theorem Six_e {V : Nat → Int32} (hV : ∀ f, 0 < f → f < 16 → V f = -6) : Six V := fun f h1 h2 => hV f (by omega) h2
/-- the copy of the entries, an empty tree -/
theorem d_copy {M N : SM} {S sb L n R : Nat} (h : R9 M S sb L n R) (hF : Fq M N S) (jk8 jk9 jk10 jk11 jk12 jk13 jk14 jk15 jk16 jk17 jk18 jk19 jk20 jk21 jk22 jk23 : Option Value) : ∃ Y P X, rn 69 820 [some (.ref S), some (.ref (S + 148)), some (.ref (S + 149)), some (.ref (S + 150)), some (.ref (S + 151)), some (.ref (S + 152)), some (.ref (S + 153)), some (.ref (S + 154)), some (.int (s32 (mJ M (S + 1 + 1) 1))), jk9, jk10, jk11, jk12, jk13, jk14, jk15, jk16, jk17, jk18, jk19, jk20, jk21, jk22, jk23] [] N = rn 69 866 [some (.ref S), some (.ref (S + 148)), some (.ref (S + 149)), some (.ref (S + 150)), some (.ref (S + 151)), some (.ref (S + 152)), some (.ref (S + 153)), some (.ref (S + 154)), some (.int (s32 (mJ M (S + 1 + 1) 1))), jk9, jk10, jk11, jk12, jk13, jk14, jk15, some (.int (0)), jk17, jk18, jk19, jk20, jk21, jk22, jk23] [] (sI (sI (sI N (S + 153) Y) (S + 154) P) (S + 152) X) ∧ EnR Y (mI M (S + 1 + 1 + 1)) (mI M (S + 1 + 1 + 2)) (mI M (S + 1 + 1 + 3)) (mI M (S + 1 + 7 + 1)) (mI M (S + 1 + 7 + 2)) n ∧ P 0 = nI n ∧ P 2 = s32 (mJ M (S + 1 + 1) 1) ∧ TrR X D0 V0 := by
  have n12 : n ≤ 12 := h.2.2.2.2.2.1
  obtain ⟨hb, hl, hlo, hrb, hrp, hrf, hrd, hwd, hti, hro⟩ := h.s
  have wlo : w12 (mJ M (S + 1 + 1) 1) := w12_of hlo n12
  obtain ⟨⟨kq, ke, kd, kt, ko, ky, kp⟩, ⟨Q0, Q1, Q2⟩, En, De, Tr, k0⟩ := h.n hF
  have one0 : ((1 : Int32) = 0) = False := by decide
  have z01 : ((0 : Int32) = 1) = False := by decide
  have lnk : ∀ x, x ≤ 12 → (nI n ≤ nI x) = (n ≤ x) := fun x hx => lE (by omega) (by omega)
  have l60 : ∀ k, k ≤ 60 → ((60 : Int32) ≤ nI k) = (60 ≤ k) := fun k hk => i_le (a := 60) (by decide) (by omega)
  have n93 : S + 149 ≠ S + 153 := by omega
  have lp : ∀ k, k ≤ 60 → rn 69 823 [some (.ref S), some (.ref (S + 148)), some (.ref (S + 149)), some (.ref (S + 150)), some (.ref (S + 151)), some (.ref (S + 152)), some (.ref (S + 153)), some (.ref (S + 154)), some (.int (s32 (mJ M (S + 1 + 1) 1))), jk9, jk10, jk11, jk12, jk13, jk14, jk15, some (.int (nI k)), jk17, jk18, jk19, jk20, jk21, jk22, jk23] [] (sI N (S + 153) (fun j => if j < k then mI N (S + 149) j else mI N (S + 153) j)) = rn 69 845 [some (.ref S), some (.ref (S + 148)), some (.ref (S + 149)), some (.ref (S + 150)), some (.ref (S + 151)), some (.ref (S + 152)), some (.ref (S + 153)), some (.ref (S + 154)), some (.int (s32 (mJ M (S + 1 + 1) 1))), jk9, jk10, jk11, jk12, jk13, jk14, jk15, some (.int (nI 60)), jk17, jk18, jk19, jk20, jk21, jk22, jk23] [] (sI N (S + 153) (fun j => if j < 60 then mI N (S + 149) j else mI N (S + 153) j)) := by
    refine loopB ?_ ?_
    · rw [t69_823]
      simp only [t69_825, t69_827, l60 60 (by omega), Nat.le_refl, ↓reduceIte]
    · intro k hk ih
      have hle : ¬ 60 ≤ k := by omega
      have ik : inR (nI k) 60 = True := iT (by omega) (by decide)
      have ck : (nI k).toNatClampNeg = k := cN (by omega)
      have up : va_up (fun j => if j < k then mI N (S + 149) j else mI N (S + 153) j) k (mI N (S + 149) k) = fun j => if j < k + 1 then mI N (S + 149) j else mI N (S + 153) j := by
        funext j
        unfold va_up
        by_cases q : j = k
        · subst q; simp
        · by_cases q2 : j < k
          · simp [q, q2, show j < k + 1 by omega]
          · simp [q, q2, show ¬ j < k + 1 by omega]
      rw [t69_823]
      simp only [t69_825, t69_827, t69_830, t69_832, t69_834, t69_835, t69_837, t69_838, t69_839, t69_842, l60 k (by omega), hle, ↓reduceIte, mK_sI, ky, ke, true_or, ik, ck, and_self, mI_sI, n93, sI_sI, up, n1]
      exact ih
  have h0 := lp 0 (by decide)
  have e0 : sI N (S + 153) (fun j => if j < 0 then mI N (S + 149) j else mI N (S + 153) j) = N := by
    have : (fun j => if j < 0 then mI N (S + 149) j else mI N (S + 153) j) = mI N (S + 153) := by
      funext j; simp
    rw [this, sI_self]
  rw [e0, show nI 0 = 0 from rfl] at h0
  obtain ⟨Y, hY⟩ : ∃ Y : Nat → Int32, Y = fun j => if j < 60 then mI N (S + 149) j else mI N (S + 153) j := ⟨_, rfl⟩
  rw [← hY] at h0
  have hYe : ∀ j, j < 60 → Y j = mI N (S + 149) j := fun j hj => by rw [hY]; exact if_pos hj
  obtain ⟨N1, hN1⟩ : ∃ N1, N1 = sI N (S + 153) Y := ⟨_, rfl⟩
  rw [← hN1] at h0
  have k1 : mK N1 = mK N := by rw [hN1]; rfl
  have q1 : mI N1 (S + 148) = mI N (S + 148) := by rw [hN1, mI_sI, if_neg (by omega)]
  obtain ⟨P, hP⟩ : ∃ P, P = va_up (va_up (mI N1 (S + 154)) 0 (nI n)) 2 (s32 (mJ M (S + 1 + 1) 1)) := ⟨_, rfl⟩
  obtain ⟨X, x1, x2⟩ := c_root3 (M := sI N1 (S + 154) P) (t := S + 152) (by rw [mK_sI, k1]; exact ko)
  have n84 : ¬ S + 148 = S + 154 := by omega
  refine ⟨Y, P, X, ?_, ?_, ?_, ?_, x2⟩
  · simp only [t69_820, t69_821]
    rw [h0]
    simp only [t69_845, t69_847, t69_848, t69_849, t69_850, t69_851, t69_852, t69_854, t69_855, t69_857, t69_858, t69_860, t69_863, t69_864, mK_sI, k1, kp, kq, true_or, i03, i23, and_self, ↓reduceIte, z0, z2, q1, Q0, mI_sI, sI_sI, ← hP, x1, cbn_v]
    rw [hN1]
  · intro e he
    obtain ⟨r0, r1, r2, r3, r4⟩ := En e he
    rw [hYe _ (by omega), hYe _ (by omega), hYe _ (by omega), hYe _ (by omega), hYe _ (by omega)]
    exact ⟨r0, r1, r2, r3, r4⟩
  · rw [hP, va_up_ne _ _ (by decide), va_up_self]
  · rw [hP, va_up_self]
/-- all entries that are not lost, in the order of writing -/
theorem d_write {M N : SM} {S sb L n R : Nat} (h : R9 M S sb L n R) (hF : Fq M N S) {s0 : (Nat → Int32) × (Nat → Int32)} (jk8 jk9 jk10 jk11 jk12 jk13 jk14 jk15 jk16 jk17 jk18 jk19 jk20 jk21 jk22 jk23 : Option Value) : ∀ m k, m + k = n → ∀ X, TrR X (woT (mI M (S + 1 + 1 + 1)) (mI M (S + 1 + 1 + 2)) (mI M (S + 1 + 1 + 3)) (mJ M (S + 1 + 1) 1) s0 k).1 (woT (mI M (S + 1 + 1 + 1)) (mI M (S + 1 + 1 + 2)) (mI M (S + 1 + 1 + 3)) (mJ M (S + 1 + 1) 1) s0 k).2 → TI (woT (mI M (S + 1 + 1 + 1)) (mI M (S + 1 + 1 + 2)) (mI M (S + 1 + 1 + 3)) (mJ M (S + 1 + 1) 1) s0 k).1 (woT (mI M (S + 1 + 1 + 1)) (mI M (S + 1 + 1 + 2)) (mI M (S + 1 + 1 + 3)) (mJ M (S + 1 + 1) 1) s0 k).2 → Six (woT (mI M (S + 1 + 1 + 1)) (mI M (S + 1 + 1 + 2)) (mI M (S + 1 + 1 + 3)) (mJ M (S + 1 + 1) 1) s0 k).2 →
    ∃ X', rn 69 866 [some (.ref S), some (.ref (S + 148)), some (.ref (S + 149)), some (.ref (S + 150)), some (.ref (S + 151)), some (.ref (S + 152)), some (.ref (S + 153)), some (.ref (S + 154)), some (.int (s32 (mJ M (S + 1 + 1) 1))), jk9, jk10, jk11, jk12, jk13, jk14, jk15, some (.int (nI k)), jk17, jk18, jk19, jk20, jk21, jk22, jk23] [] (sI N (S + 152) X) = rn 69 899 [some (.ref S), some (.ref (S + 148)), some (.ref (S + 149)), some (.ref (S + 150)), some (.ref (S + 151)), some (.ref (S + 152)), some (.ref (S + 153)), some (.ref (S + 154)), some (.int (s32 (mJ M (S + 1 + 1) 1))), jk9, jk10, jk11, jk12, jk13, jk14, jk15, some (.int (nI n)), jk17, jk18, jk19, jk20, jk21, jk22, jk23] [] (sI N (S + 152) X') ∧ TrR X' (woT (mI M (S + 1 + 1 + 1)) (mI M (S + 1 + 1 + 2)) (mI M (S + 1 + 1 + 3)) (mJ M (S + 1 + 1) 1) s0 n).1 (woT (mI M (S + 1 + 1 + 1)) (mI M (S + 1 + 1 + 2)) (mI M (S + 1 + 1 + 3)) (mJ M (S + 1 + 1) 1) s0 n).2 ∧ TI (woT (mI M (S + 1 + 1 + 1)) (mI M (S + 1 + 1 + 2)) (mI M (S + 1 + 1 + 3)) (mJ M (S + 1 + 1) 1) s0 n).1 (woT (mI M (S + 1 + 1 + 1)) (mI M (S + 1 + 1 + 2)) (mI M (S + 1 + 1 + 3)) (mJ M (S + 1 + 1) 1) s0 n).2 ∧ Six (woT (mI M (S + 1 + 1 + 1)) (mI M (S + 1 + 1 + 2)) (mI M (S + 1 + 1 + 3)) (mJ M (S + 1 + 1) 1) s0 n).2 := by
  have n12 : n ≤ 12 := h.2.2.2.2.2.1
  obtain ⟨hb, hl, hlo, hrb, hrp, hrf, hrd, hwd, hti, hro⟩ := h.s
  have wlo : w12 (mJ M (S + 1 + 1) 1) := w12_of hlo n12
  obtain ⟨⟨kq, ke, kd, kt, ko, ky, kp⟩, ⟨Q0, Q1, Q2⟩, En, De, Tr, k0⟩ := h.n hF
  have one0 : ((1 : Int32) = 0) = False := by decide
  have z01 : ((0 : Int32) = 1) = False := by decide
  have lnk : ∀ x, x ≤ 12 → (nI n ≤ nI x) = (n ≤ x) := fun x hx => lE (by omega) (by omega)
  have hS : EnS (mI M (S + 1 + 1 + 1)) (mI M (S + 1 + 1 + 2)) (mI M (S + 1 + 1 + 3)) n := h.2.2.2.2.2.2.2.1
  intro m
  induction m with
  | zero =>
    intro k hk X h1 h2 h3
    obtain rfl : k = n := by omega
    refine ⟨X, ?_, h1, h2, h3⟩
    have q1 : mI (sI N (S + 152) X) (S + 148) = mI N (S + 148) := by rw [mI_sI, if_neg (by omega)]
    rw [t69_866]
    simp only [t69_868, t69_869, t69_870, t69_871, mK_sI, kq, true_or, i03, and_self, ↓reduceIte, z0, q1, Q0, lE (show k ≤ 1000000 by omega) (show k ≤ 1000000 by omega), Nat.le_refl]
  | succ m ih =>
    intro k hk X h1 h2 h3
    have hkn : k < n := by omega
    have hle : ¬ n ≤ k := by omega
    obtain ⟨N1, hN1⟩ : ∃ N1, N1 = sI N (S + 152) X := ⟨_, rfl⟩
    have k1 : mK N1 = mK N := by rw [hN1]; rfl
    have q1 : mI N1 (S + 148) = mI N (S + 148) := by rw [hN1, mI_sI, if_neg (by omega)]
    have e1 : mI N1 (S + 149) = mI N (S + 149) := by rw [hN1, mI_sI, if_neg (by omega)]
    have x1 : mI N1 (S + 152) = X := by rw [hN1, mI_sI, if_pos rfl]
    cases hx : bt (mJ M (S + 1 + 1) 1) k with
    | true =>
      have hw := woT_t (K := mI M (S + 1 + 1 + 1)) (F := mI M (S + 1 + 1 + 2)) (A := mI M (S + 1 + 1 + 3)) (s0 := s0) hx
      obtain ⟨X', g, g2⟩ := ih (k + 1) (by omega) X (by rw [hw]; exact h1) (by rw [hw]; exact h2) (by rw [hw]; exact h3)
      refine ⟨X', ?_, g2⟩
      rw [← hN1] at g ⊢
      rw [t69_866]
      simp only [t69_868, t69_869, t69_870, t69_871, t69_874, t69_876, t69_878, t69_879, t69_880, t69_881, t69_884, t69_886, t69_887, t69_889, t69_892, t69_893, t69_896, k1, kq, true_or, i03, and_self, ↓reduceIte, z0, q1, Q0, lnk k (by omega), hle, b3_read (show k < 32 by omega), b3_w wlo, hx, one0, not_false_eq_true, n1]
      exact g
    | false =>
      have hw := woT_f (K := mI M (S + 1 + 1 + 1)) (F := mI M (S + 1 + 1 + 2)) (A := mI M (S + 1 + 1 + 3)) (s0 := s0) hx
      obtain ⟨ok, eK, eF⟩ := hS k hkn
      obtain ⟨r0, r1, r2, r3, r4⟩ := En k hkn
      obtain ⟨T2, p1, p2⟩ := c_play3 (M := N1) (E := S + 149) (t := S + 152) (e := k) (kd := (mI M (S + 1 + 1 + 1) k).toNatClampNeg) (f := (mI M (S + 1 + 1 + 2) k).toNatClampNeg) (a := mI M (S + 1 + 1 + 3) k) (D := (woT (mI M (S + 1 + 1 + 1)) (mI M (S + 1 + 1 + 2)) (mI M (S + 1 + 1 + 3)) (mJ M (S + 1 + 1) 1) s0 k).1) (V := (woT (mI M (S + 1 + 1 + 1)) (mI M (S + 1 + 1 + 2)) (mI M (S + 1 + 1 + 3)) (mJ M (S + 1 + 1) 1) s0 k).2) (by rw [k1]; exact ke) (by rw [k1]; exact ko) (by omega) (by rw [e1, r0]; exact eK) (by rw [e1, r1]; exact eF) (by rw [e1]; exact r2) ok (by rw [x1]; exact h1) h2 h3
      have fin : sI N1 (S + 152) T2 = sI N (S + 152) T2 := by rw [hN1, sI_sI]
      rw [fin] at p1
      obtain ⟨X', g, g2⟩ := ih (k + 1) (by omega) T2 (by
        rw [hw]
        by_cases q : rfs (woT (mI M (S + 1 + 1 + 1)) (mI M (S + 1 + 1 + 2)) (mI M (S + 1 + 1 + 3)) (mJ M (S + 1 + 1) 1) s0 k).1 (woT (mI M (S + 1 + 1 + 1)) (mI M (S + 1 + 1 + 2)) (mI M (S + 1 + 1 + 3)) (mJ M (S + 1 + 1) 1) s0 k).2 (mI M (S + 1 + 1 + 1) k).toNatClampNeg (mI M (S + 1 + 1 + 2) k).toNatClampNeg (mI M (S + 1 + 1 + 3) k) = 0
        · rw [if_pos q, if_pos q] at p2; rw [if_pos q]; exact p2
        · rw [if_neg q, if_neg q] at p2; rw [if_neg q]; exact p2) (by
        rw [hw]
        by_cases q : rfs (woT (mI M (S + 1 + 1 + 1)) (mI M (S + 1 + 1 + 2)) (mI M (S + 1 + 1 + 3)) (mJ M (S + 1 + 1) 1) s0 k).1 (woT (mI M (S + 1 + 1 + 1)) (mI M (S + 1 + 1 + 2)) (mI M (S + 1 + 1 + 3)) (mJ M (S + 1 + 1) 1) s0 k).2 (mI M (S + 1 + 1 + 1) k).toNatClampNeg (mI M (S + 1 + 1 + 2) k).toNatClampNeg (mI M (S + 1 + 1 + 3) k) = 0
        · rw [if_pos q]; exact TI_play h2 ok.1 q
        · rw [if_neg q]; exact h2) (by
        rw [hw]
        by_cases q : rfs (woT (mI M (S + 1 + 1 + 1)) (mI M (S + 1 + 1 + 2)) (mI M (S + 1 + 1 + 3)) (mJ M (S + 1 + 1) 1) s0 k).1 (woT (mI M (S + 1 + 1 + 1)) (mI M (S + 1 + 1 + 2)) (mI M (S + 1 + 1 + 3)) (mJ M (S + 1 + 1) 1) s0 k).2 (mI M (S + 1 + 1 + 1) k).toNatClampNeg (mI M (S + 1 + 1 + 2) k).toNatClampNeg (mI M (S + 1 + 1 + 3) k) = 0
        · rw [if_pos q]; exact Six_play h3 ok.2.1
        · rw [if_neg q]; exact h3)
      refine ⟨X', ?_, g2⟩
      rw [← hN1, t69_866]
      simp only [t69_868, t69_869, t69_870, t69_871, t69_874, t69_876, t69_878, t69_879, t69_880, t69_881, t69_884, t69_886, t69_887, t69_889, t69_892, t69_893, t69_896, k1, kq, true_or, i03, and_self, ↓reduceIte, z0, q1, Q0, lnk k (by omega), hle, b3_read (show k < 32 by omega), b3_w wlo, hx, Bool.false_eq_true, not_true_eq_false, p1, cbn_i, n1]
      exact g
