/-! acts of the law: an entry written -/
/-- the last below n for which p holds, as the law looks for it -/
def lst (p : Nat → Bool) : Nat → Int32
  | 0 => -1
  | n + 1 => if p n = true then nI n else lst p n
theorem lst_B (p : Nat → Bool) : ∀ n, (lst p n = -1 ∧ lastB p n = 0) ∨ ∃ k, k < n ∧ lst p n = nI k ∧ lastB p n = bE k
  | 0 => Or.inl ⟨rfl, rfl⟩
  | n + 1 => by
    unfold lst lastB
    cases hp : p n with
    | true => exact Or.inr ⟨n, by omega, by rw [if_pos rfl], by rw [if_pos rfl]⟩
    | false =>
      rw [if_neg (by decide), if_neg (by decide)]
      rcases lst_B p n with h | ⟨k, h1, h2⟩
      · exact Or.inl h
      · exact Or.inr ⟨k, by omega, h2⟩
theorem lastB_w {p : Nat → Bool} {n : Nat} (n12 : n ≤ 12) : w12 (lastB p n) := by
  rcases lst_B p n with h | ⟨k, h1, h2, h3⟩
  · rw [h.2]; exact w12_0
  · rw [h3]; exact w12_bE (by omega)
theorem lst_cong {p q : Nat → Bool} : ∀ n, (∀ k, k < n → p k = q k) → lst p n = lst q n
  | 0, _ => rfl
  | n + 1, h => by unfold lst; rw [h n (by omega), lst_cong n (fun k hk => h k (by omega))]
theorem lastB_f : ∀ n, lastB (fun _ => false) n = 0
  | 0 => rfl
  | n + 1 => by unfold lastB; rw [if_neg (by decide), lastB_f n]
theorem lastB_c (c : Prop) [Decidable c] (p : Nat → Bool) (n : Nat) : lastB (fun e => decide c && p e) n = if c then lastB p n else 0 := by
  by_cases h : c
  · rw [if_pos h, decide_eq_true h]
    exact lastB_cong fun k _ => Bool.true_and _
  · rw [if_neg h, decide_eq_false h]
    exact (lastB_cong fun k _ => Bool.false_and _).trans (lastB_f n)
theorem fNd3 (K F A : Nat → Int32) (n : Nat) (o f a : Int32) : fNd K F A n o f a = (lastB (fun e => decide (F e = f)) n ||| lastB (fun e => decide ((o = 0 ∨ o = 2) ∧ ¬ a = 0) && decide (F e = a)) n) ||| lastB (fun e => decide (o = 3) && (decide (K e = 0 ∨ K e = 2) && decide (A e = f))) n := by
  rw [lastB_c, lastB_c]
  dsimp only [fNd]
  split <;> split <;> simp only [Int64.or_zero]
theorem par4 : ∀ o, o < 4 → (¬ nI o - nI o / 2 * 2 = 0) = ¬ (nI o = 0 ∨ nI o = 2) := by decide +kernel
theorem wr_o {N : SM} {S sb n kd : Nat} (hkd : kd < 7) (hn : n < 12) (kq : mK N (S + 148) = (1, 3)) (Q0 : mI N (S + 148) 0 = nI n) (x : Int32) (x12 jk9 jk10 jk11 jk12 jk13 jk14 jk15 jk16 jk17 jk18 jk19 jk20 jk21 : Option Value) : ∃ o, o < 4 ∧ rn 87 107 [some (.ref sb), some (.ref S), some (.ref (S + 148)), some (.ref (S + 149)), some (.ref (S + 150)), some (.ref (S + 151)), some (.ref (S + 152)), some (.ref (S + 153)), some (.ref (S + 154)), jk9, some (.int (x)), some (.int (nI kd)), x12, jk13, jk14, jk15, jk16, jk17, jk18, jk19, jk20, jk21] [] N = rn 87 134 [some (.ref sb), some (.ref S), some (.ref (S + 148)), some (.ref (S + 149)), some (.ref (S + 150)), some (.ref (S + 151)), some (.ref (S + 152)), some (.ref (S + 153)), some (.ref (S + 154)), jk9, some (.int (x)), some (.int (nI kd)), x12, some (.int (nI o)), jk14, jk15, jk16, jk17, jk18, jk19, jk20, jk21] [] N := by
  have n12 : (nI n = 12) = False := eq_false (fun e => absurd (congrArg Int32.toNatClampNeg e) (by rw [cN (by omega)]; show ¬ n = 12; omega))
  have hs : ∀ kd, kd < 7 → ((4 : Int32) ≤ nI kd) = (4 ≤ kd) := fun kd h => i_le (a := 4) (by decide) (by omega)
  by_cases q : 4 ≤ kd
  · have e : nI kd - 3 = nI (kd - 3) := (by decide +kernel : ∀ kd, kd < 7 → 4 ≤ kd → nI kd - 3 = nI (kd - 3)) kd hkd q
    refine ⟨kd - 3, by omega, ?_⟩
    simp only [t87_107, t87_108, t87_109, t87_110, t87_112, t87_115, t87_118, t87_120, t87_121, t87_124, t87_125, t87_128, t87_130, t87_131, t87_132, kq, true_or, i03, and_self, ↓reduceIte, z0, Q0, n12, not_false_eq_true, hs kd hkd, q, e]
  · refine ⟨0, by decide, ?_⟩
    rw [show nI 0 = 0 from rfl]
    simp only [t87_107, t87_108, t87_109, t87_110, t87_112, t87_115, t87_118, t87_120, t87_121, t87_124, t87_125, t87_128, t87_130, t87_131, t87_132, kq, true_or, i03, and_self, ↓reduceIte, z0, Q0, n12, not_false_eq_true, hs kd hkd, q]
/-- what the law asks to be written -/
def okW (o f : Nat) (a : Int32) : Prop := okS o f a ∧ (o = 1 → ∃ j, j < 1000 ∧ a = nI j) ∧ (o = 3 → a = -6)
theorem wr_f {N : SM} {S sb o kd : Nat} (ho : o < 4) (x : Int32) (x12 jk9 jk10 jk11 jk12 jk13 jk14 jk15 jk16 jk17 jk18 jk19 jk20 jk21 : Option Value) : ∃ f a, okW o f a ∧ rn 87 134 [some (.ref sb), some (.ref S), some (.ref (S + 148)), some (.ref (S + 149)), some (.ref (S + 150)), some (.ref (S + 151)), some (.ref (S + 152)), some (.ref (S + 153)), some (.ref (S + 154)), jk9, some (.int (x)), some (.int (nI kd)), x12, some (.int (nI o)), jk14, jk15, jk16, jk17, jk18, jk19, jk20, jk21] [] N = rn 87 189 [some (.ref sb), some (.ref S), some (.ref (S + 148)), some (.ref (S + 149)), some (.ref (S + 150)), some (.ref (S + 151)), some (.ref (S + 152)), some (.ref (S + 153)), some (.ref (S + 154)), jk9, some (.int (x)), some (.int (nI kd)), x12, some (.int (nI o)), some (.int (nI f)), some (.int (a)), jk16, jk17, jk18, jk19, jk20, jk21] [] N := by
  obtain ⟨r, r5, hr⟩ := c_low (M := N) (x >>> (5 &&& 31)) (m := 5) (by decide) (by decide)
  have hr : cl 60 [.int (x >>> (5 &&& 31)), .int 5] N = some (some (.int (nI r)), N) := hr
  obtain ⟨y, y3, hy⟩ := c_low (M := N) (x >>> (8 &&& 31)) (m := 1000) (by decide) (by decide)
  have hy : cl 60 [.int (x >>> (8 &&& 31)), .int 1000] N = some (some (.int (nI y)), N) := hy
  obtain ⟨z, z6, hz⟩ := c_low (M := N) (x >>> (9 &&& 31)) (m := 6) (by decide) (by decide)
  have hz : cl 60 [.int (x >>> (9 &&& 31)), .int 6] N = some (some (.int (nI z)), N) := hz
  have e1 : (1 : Int32) + nI r = nI (r + 1) := by rw [Int32.add_comm, n1]
  match o, ho with
  | 0, _ =>
    refine ⟨r + 1, nI z, ⟨⟨⟨by decide, by omega, by omega, fun _ => isF_n (by omega), fun h => by omega⟩, by omega, fun _ => ⟨z, z6, rfl⟩⟩, fun h => by omega, fun h => by omega⟩, ?_⟩
    rw [show nI 0 = 0 from rfl]
    simp only [t87_134, t87_135, t87_137, t87_138, t87_139, t87_140, t87_143, t87_144, t87_146, t87_148, t87_149, t87_152, t87_154, t87_156, t87_157, t87_160, t87_163, t87_166, t87_168, t87_169, t87_172, t87_174, t87_177, t87_179, t87_181, t87_182, t87_184, t87_187, hr, hz, cbn_i, e1, ↓reduceIte, (by decide : ((0 : Int32) = 1) = False), (by decide : ((0 : Int32) = 3) = False), not_false_eq_true]
  | 1, _ =>
    have ym : ¬ nI y = -6 := fun e => nI_pos (n := y) (by omega) (by rw [e]; decide)
    refine ⟨r + 1, nI y, ⟨⟨⟨by decide, by omega, by omega, fun h => by omega, fun _ => ym⟩, by omega, fun h => by omega⟩, fun _ => ⟨y, y3, rfl⟩, fun h => by omega⟩, ?_⟩
    rw [show nI 1 = 1 from rfl]
    simp only [t87_134, t87_135, t87_137, t87_138, t87_139, t87_140, t87_143, t87_144, t87_146, t87_148, t87_149, t87_152, t87_154, t87_156, t87_157, t87_160, t87_163, t87_166, t87_168, t87_169, t87_172, t87_174, t87_177, t87_179, t87_181, t87_182, t87_184, t87_187, hr, hy, cbn_i, e1, ↓reduceIte, not_true_eq_false]
  | 2, _ =>
    refine ⟨r + 1, nI z, ⟨⟨⟨by decide, by omega, by omega, fun _ => isF_n (by omega), fun h => by omega⟩, by omega, fun _ => ⟨z, z6, rfl⟩⟩, fun h => by omega, fun h => by omega⟩, ?_⟩
    rw [show nI 2 = 2 from rfl]
    simp only [t87_134, t87_135, t87_137, t87_138, t87_139, t87_140, t87_143, t87_144, t87_146, t87_148, t87_149, t87_152, t87_154, t87_156, t87_157, t87_160, t87_163, t87_166, t87_168, t87_169, t87_172, t87_174, t87_177, t87_179, t87_181, t87_182, t87_184, t87_187, hr, hz, cbn_i, e1, ↓reduceIte, (by decide : ((2 : Int32) = 1) = False), (by decide : ((2 : Int32) = 3) = False), not_false_eq_true]
  | 3, _ =>
    refine ⟨r + 1, -6, ⟨⟨⟨by decide, by omega, by omega, fun h => by omega, fun h => by omega⟩, by omega, fun h => by omega⟩, fun h => by omega, fun _ => rfl⟩, ?_⟩
    rw [show nI 3 = 3 from rfl]
    simp only [t87_134, t87_135, t87_137, t87_138, t87_139, t87_140, t87_143, t87_144, t87_146, t87_148, t87_149, t87_152, t87_154, t87_156, t87_157, t87_160, t87_163, t87_166, t87_168, t87_169, t87_172, t87_174, t87_177, t87_179, t87_181, t87_182, t87_184, t87_187, hr, cbn_i, e1, ↓reduceIte, (by decide : ((3 : Int32) = 1) = False), not_false_eq_true, not_true_eq_false]
theorem w_fa {a : Int32} (h : ∃ j, j < 6 ∧ a = nI j) : ¬ (a < 0 ∨ 16 ≤ a) := by
  obtain ⟨j, j6, e⟩ := h
  rw [e]
  exact of_eq_false (isF_ok (j := j) (by omega))
theorem w_a1 {a : Int32} (h : ∃ j, j < 1000 ∧ a = nI j) : ¬ (a < 0 ∨ ¬ a < 1000) := by
  obtain ⟨j, j6, e⟩ := h
  rw [e]
  intro z
  rcases z with z | z
  · exact nI_pos (by omega) z
  · refine z ?_
    have q : (nI j < nI 1000) = (j < 1000) := i_lt (by omega) (by decide)
    show nI j < nI 1000
    rw [q]; exact j6
theorem wr_call {N : SM} {S sb L n R o f kd : Nat} {a : Int32} (h : R9 N S sb L n R) (hn : n < 12) (hw : okW o f a) (x : Int32) (x12 jk9 jk10 jk11 jk12 jk13 jk14 jk15 jk16 jk17 jk18 jk19 jk20 jk21 : Option Value) : ∃ M1 M3, Fr N M1 (S + 16) (S + 107) ∧ Aft N (lgApp M1 (S + 1 + 1) n (nI o) (nI f) a) M3 S ∧ rn 87 189 [some (.ref sb), some (.ref S), some (.ref (S + 148)), some (.ref (S + 149)), some (.ref (S + 150)), some (.ref (S + 151)), some (.ref (S + 152)), some (.ref (S + 153)), some (.ref (S + 154)), jk9, some (.int (x)), some (.int (nI kd)), x12, some (.int (nI o)), some (.int (nI f)), some (.int (a)), jk16, jk17, jk18, jk19, jk20, jk21] [] N = rn 87 247 [some (.ref sb), some (.ref S), some (.ref (S + 148)), some (.ref (S + 149)), some (.ref (S + 150)), some (.ref (S + 151)), some (.ref (S + 152)), some (.ref (S + 153)), some (.ref (S + 154)), jk9, some (.int (x)), some (.int (nI kd)), x12, some (.int (nI o)), some (.int (nI f)), some (.int (a)), some (.int (nI n)), jk17, jk18, jk19, jk20, jk21] [] M3 := by
  have n12 : n ≤ 12 := h.2.2.2.2.2.1
  have hF := Fq.refl N S
  obtain ⟨hb, hl, hlo, hrb, hrp, hrf, hrd, hwd, hti, hro⟩ := h.s
  have wlo : w12 (mJ N (S + 1 + 1) 1) := w12_of hlo n12
  obtain ⟨⟨kq, ke, kd, kt, ko, ky, kp⟩, ⟨Q0, Q1, Q2⟩, En, De, Tr, k0⟩ := h.n hF
  obtain ⟨h1, h2, ⟨w, hsr⟩, h4, h5, h6, h7, h8, h9, h10, h11, h12, h13⟩ := id h
  have one0 : ((1 : Int32) = 0) = False := by decide
  have z01 : ((0 : Int32) = 1) = False := by decide
  have hn0 : mI N (S + 1 + 1) 0 = nI n := hsr.1.1
  have h16 : ¬ (nI f < 0 ∨ 16 ≤ nI f) := of_eq_false (isF_ok (by have := hw.1.2.1; omega))
  have hf0 : ¬ nI f = 0 := nI_ne0 hw.1.1.2.2.1 (by have := hw.1.2.1; omega)
  have o4 := hw.1.1.1
  match o, hw with
  | 0, hw =>
    obtain ⟨M1, p, hc⟩ := pub_make h1 h2
    have hS := (h1.st p.1).2.1
    have hn : mI M1 (S + 1 + 1) 0 = nI n := by rw [(p.2 (S + 1 + 1) (by omega)).1]; exact hn0
    have ce := c_writeEntry hS hn (by omega) (nI 0) (nI f) a
    rw [if_neg (fun h => h.elim h16 hf0), if_neg (fun h => w_fa (hw.1.2.2 (by decide)) h.2), if_neg (fun h => absurd h.1 (by decide)), if_neg (show ¬ n = 40 by omega)] at ce
    have fC : Fr M1 (lgApp M1 (S + 1 + 1) n (nI 0) (nI f) a) (S + 2) (S + 14) := (Fr_lgApp _ _ _ _ _ _).mono (by omega) (by omega)
    obtain ⟨M3, g1, g2⟩ := hc (nI f) a (nI n) _ ce fC
    refine ⟨M1, M3, p, g2, ?_⟩
    have eq1 : (nI 0 = nI 0) = True := by decide
    have eq2 : (nI 0 = nI 1) = False := by decide
    have eq3 : (nI 0 = nI 2) = False := by decide
    simp only [show nI 0 = (0 : Int32) from rfl]
    simp only [t87_189, t87_191, t87_194, t87_195, t87_197, t87_199, t87_202, t87_205, t87_207, t87_208, t87_211, t87_212, t87_214, t87_216, t87_219, t87_222, t87_224, t87_225, t87_228, t87_229, t87_231, t87_233, t87_236, t87_239, t87_240, t87_242, t87_245, k0, g1, cbn_i, ↓reduceIte, (by decide : ((0 : Int32) = 0) = True), (by decide : ((0 : Int32) = 1) = False), (by decide : ((0 : Int32) = 2) = False), not_true_eq_false, not_false_eq_true]
  | 1, hw =>
    obtain ⟨M1, p, hc⟩ := pub_write h1 h2
    have hS := (h1.st p.1).2.1
    have hn : mI M1 (S + 1 + 1) 0 = nI n := by rw [(p.2 (S + 1 + 1) (by omega)).1]; exact hn0
    have ce := c_writeEntry hS hn (by omega) (nI 1) (nI f) a
    rw [if_neg (fun h => h.elim h16 hf0), if_neg (fun h => by rcases h.1 with z | z <;> exact absurd z (by decide)), if_neg (fun h => w_a1 (hw.2.1 rfl) h.2), if_neg (show ¬ n = 40 by omega)] at ce
    have fC : Fr M1 (lgApp M1 (S + 1 + 1) n (nI 1) (nI f) a) (S + 2) (S + 14) := (Fr_lgApp _ _ _ _ _ _).mono (by omega) (by omega)
    obtain ⟨M3, g1, g2⟩ := hc (nI f) a (nI n) _ ce fC
    refine ⟨M1, M3, p, g2, ?_⟩
    have eq1 : (nI 1 = nI 0) = False := by decide
    have eq2 : (nI 1 = nI 1) = True := by decide
    have eq3 : (nI 1 = nI 2) = False := by decide
    simp only [show nI 1 = (1 : Int32) from rfl]
    simp only [t87_189, t87_191, t87_194, t87_195, t87_197, t87_199, t87_202, t87_205, t87_207, t87_208, t87_211, t87_212, t87_214, t87_216, t87_219, t87_222, t87_224, t87_225, t87_228, t87_229, t87_231, t87_233, t87_236, t87_239, t87_240, t87_242, t87_245, k0, g1, cbn_i, ↓reduceIte, (by decide : ((1 : Int32) = 0) = False), (by decide : ((1 : Int32) = 1) = True), (by decide : ((1 : Int32) = 2) = False), not_true_eq_false, not_false_eq_true]
  | 2, hw =>
    obtain ⟨M1, p, hc⟩ := pub_move h1 h2
    have hS := (h1.st p.1).2.1
    have hn : mI M1 (S + 1 + 1) 0 = nI n := by rw [(p.2 (S + 1 + 1) (by omega)).1]; exact hn0
    have ce := c_writeEntry hS hn (by omega) (nI 2) (nI f) a
    rw [if_neg (fun h => h.elim h16 hf0), if_neg (fun h => w_fa (hw.1.2.2 (by decide)) h.2), if_neg (fun h => absurd h.1 (by decide)), if_neg (show ¬ n = 40 by omega)] at ce
    have fC : Fr M1 (lgApp M1 (S + 1 + 1) n (nI 2) (nI f) a) (S + 2) (S + 14) := (Fr_lgApp _ _ _ _ _ _).mono (by omega) (by omega)
    obtain ⟨M3, g1, g2⟩ := hc (nI f) a (nI n) _ ce fC
    refine ⟨M1, M3, p, g2, ?_⟩
    have eq1 : (nI 2 = nI 0) = False := by decide
    have eq2 : (nI 2 = nI 1) = False := by decide
    have eq3 : (nI 2 = nI 2) = True := by decide
    simp only [show nI 2 = (2 : Int32) from rfl]
    simp only [t87_189, t87_191, t87_194, t87_195, t87_197, t87_199, t87_202, t87_205, t87_207, t87_208, t87_211, t87_212, t87_214, t87_216, t87_219, t87_222, t87_224, t87_225, t87_228, t87_229, t87_231, t87_233, t87_236, t87_239, t87_240, t87_242, t87_245, k0, g1, cbn_i, ↓reduceIte, (by decide : ((2 : Int32) = 0) = False), (by decide : ((2 : Int32) = 1) = False), (by decide : ((2 : Int32) = 2) = True), not_true_eq_false, not_false_eq_true]
  | 3, hw =>
    rw [hw.2.2 rfl]
    obtain ⟨M1, p, hc⟩ := pub_drop h1 h2
    have hS := (h1.st p.1).2.1
    have hn : mI M1 (S + 1 + 1) 0 = nI n := by rw [(p.2 (S + 1 + 1) (by omega)).1]; exact hn0
    have ce := c_writeEntry hS hn (by omega) (nI 3) (nI f) (-6)
    rw [if_neg (fun h => h.elim h16 hf0), if_neg (fun h => by rcases h.1 with z | z <;> exact absurd z (by decide)), if_neg (fun h => absurd h.1 (by decide)), if_neg (show ¬ n = 40 by omega)] at ce
    have fC : Fr M1 (lgApp M1 (S + 1 + 1) n (nI 3) (nI f) (-6)) (S + 2) (S + 14) := (Fr_lgApp _ _ _ _ _ _).mono (by omega) (by omega)
    obtain ⟨M3, g1, g2⟩ := hc (nI f) (nI n) _ ce fC
    refine ⟨M1, M3, p, g2, ?_⟩
    have eq1 : (nI 3 = nI 0) = False := by decide
    have eq2 : (nI 3 = nI 1) = False := by decide
    have eq3 : (nI 3 = nI 2) = False := by decide
    simp only [show nI 3 = (3 : Int32) from rfl]
    simp only [t87_189, t87_191, t87_194, t87_195, t87_197, t87_199, t87_202, t87_205, t87_207, t87_208, t87_211, t87_212, t87_214, t87_216, t87_219, t87_222, t87_224, t87_225, t87_228, t87_229, t87_231, t87_233, t87_236, t87_239, t87_240, t87_242, t87_245, k0, g1, cbn_i, ↓reduceIte, (by decide : ((3 : Int32) = 0) = False), (by decide : ((3 : Int32) = 1) = False), (by decide : ((3 : Int32) = 2) = False), not_true_eq_false, not_false_eq_true]
  | k + 4, hw => omega
