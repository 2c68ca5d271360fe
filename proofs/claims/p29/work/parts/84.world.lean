/-! the law's world beside the class's -/
def R9 (M : SM) (S sb L n R : Nat) : Prop :=
  ClsAt M S ∧ HistC M S ∧ (∃ w, SR M (S + 1) w n R) ∧ (sb < S ∧ mK M sb = (5, L)) ∧
  (mK M (S + 148) = (1, 3) ∧ mK M (S + 149) = (1, 60) ∧ mK M (S + 150) = (1, 12) ∧ mK M (S + 151) = (1, 12) ∧ mK M (S + 152) = (1, 12) ∧ mK M (S + 153) = (1, 60) ∧ mK M (S + 154) = (1, 3) ∧ S + 155 ≤ mS M) ∧
  n ≤ 12 ∧ R ≤ 1000 ∧ EnS (mI M (S + 1 + 1 + 1)) (mI M (S + 1 + 1 + 2)) (mI M (S + 1 + 1 + 3)) n ∧ Six (mI M (S + 1 + 7 + 5)) ∧
  QR (mI M (S + 148)) n R (mJ M (S + 1 + 1) 1) ∧ EnR (mI M (S + 149)) (mI M (S + 1 + 1 + 1)) (mI M (S + 1 + 1 + 2)) (mI M (S + 1 + 1 + 3)) (mI M (S + 1 + 7 + 1)) (mI M (S + 1 + 7 + 2)) n ∧
  DeR (mI M (S + 150)) (mJ M (S + 1 + 1 + 4)) n ∧ TrR (mI M (S + 151)) (mI M (S + 1 + 7 + 4)) (mI M (S + 1 + 7 + 5))
/-- what the class's rows say -/
theorem SR_dat {M : SM} {s n R : Nat} {w : Nat → Int32} (h : SR M s w n R) (hR : R ≤ 100000) :
    (∀ e, e < n → ∀ k, bt (mJ M (s + 1 + 4) e) k = true → k < e) ∧ (∀ e, e < n → mJ M (s + 1 + 5) e = orL (mJ M (s + 1 + 4) e) (mJ M (s + 1 + 5)) e) ∧ (∀ k, bt (mJ M (s + 1) 1) k = true → k < n) ∧
    RoB (mI M (s + 7 + 1)) n ∧ (∀ e, bt (mJ M (s + 7) 0) e = (decide (e < n) && !decide (mI M (s + 7 + 1) e = -6))) ∧ (∀ e, bt (mJ M (s + 7) 1) e = (decide (e < n) && !decide (mI M (s + 7 + 2) e ≤ 0))) ∧
    mI M (s + 7) 2 = nI R ∧ mI M (s + 7) 3 = nI (wdN (mI M (s + 7 + 1)) n R) ∧ TI (mI M (s + 7 + 4)) (mI M (s + 7 + 5)) ∧ (∀ e, e < n → mI M (s + 7 + 1) e = -6 ∨ ∃ i, i < R ∧ mI M (s + 7 + 1) e = nI i) := by
  obtain ⟨⟨l1, l2, l3, l4, l5, l6, l7, l8, l9, l10⟩, r1, r2, r3, r4, r5, r6, r7, r8, r9, r10⟩ := h
  refine ⟨l9, l10, fun k hk => ?_, fun e he => ?_, r6, r7, r2, r8, r10, r5⟩
  · rcases Nat.lt_or_ge k n with q | q
    · exact q
    · rw [l7 k q] at hk; cases hk
  · rcases r5 e he with h | ⟨i, hi, h⟩
    · exact Or.inl h
    · exact Or.inr ⟨i, by omega, h⟩
/-- what questions leave alone -/
def Fq (M N : SM) (S : Nat) : Prop := N.2.2 = M.2.2 ∧ ∀ b, (b < S + 111 ∨ (S + 120 ≤ b ∧ b < S + 152)) → Same M N b
theorem Fq.refl (M : SM) (S : Nat) : Fq M M S := ⟨rfl, fun _ _ => ⟨rfl, rfl⟩⟩
theorem Fq.trans {M N P : SM} {S : Nat} (h : Fq M N S) (g : Fq N P S) : Fq M P S := ⟨g.1.trans h.1, fun b hb => ⟨(g.2 b hb).1.trans (h.2 b hb).1, (g.2 b hb).2.trans (h.2 b hb).2⟩⟩
theorem Fq.of {M N : SM} {S lo hi : Nat} (h : Fr M N lo hi) (hd : (S + 111 ≤ lo ∧ hi ≤ S + 120) ∨ S + 152 ≤ lo) : Fq M N S := ⟨h.1, fun b hb => h.2 b (by omega)⟩
theorem Fq.sI {M : SM} {S a : Nat} (f : Nat → Int32) (h : S + 152 ≤ a) : Fq M (sI M a f) S := Fq.of (Fr.sI f (Nat.le_refl _) (Nat.lt_succ_self _)) (Or.inr h)
theorem Fq.rows {M N : SM} {S : Nat} (h : Fq M N S) : mI N (S + 1 + 1 + 1) = mI M (S + 1 + 1 + 1) ∧ mI N (S + 1 + 1 + 2) = mI M (S + 1 + 1 + 2) ∧ mI N (S + 1 + 1 + 3) = mI M (S + 1 + 1 + 3) ∧ mJ N (S + 1 + 1 + 4) = mJ M (S + 1 + 1 + 4) ∧ mJ N (S + 1 + 1 + 5) = mJ M (S + 1 + 1 + 5) ∧ mJ N (S + 1 + 1) = mJ M (S + 1 + 1) ∧ mJ N (S + 1 + 7) = mJ M (S + 1 + 7) ∧ mI N (S + 1 + 7) = mI M (S + 1 + 7) ∧ mI N (S + 1 + 7 + 1) = mI M (S + 1 + 7 + 1) ∧ mI N (S + 1 + 7 + 2) = mI M (S + 1 + 7 + 2) ∧ mI N (S + 1 + 7 + 4) = mI M (S + 1 + 7 + 4) ∧ mI N (S + 1 + 7 + 5) = mI M (S + 1 + 7 + 5) ∧ mI N (S + 148) = mI M (S + 148) ∧ mI N (S + 149) = mI M (S + 149) ∧ mI N (S + 150) = mI M (S + 150) ∧ mI N (S + 151) = mI M (S + 151) ∧ mI N (S + 14) = mI M (S + 14) :=
  ⟨(h.2 (S + 1 + 1 + 1) (by omega)).1, (h.2 (S + 1 + 1 + 2) (by omega)).1, (h.2 (S + 1 + 1 + 3) (by omega)).1, (h.2 (S + 1 + 1 + 4) (by omega)).2, (h.2 (S + 1 + 1 + 5) (by omega)).2, (h.2 (S + 1 + 1) (by omega)).2, (h.2 (S + 1 + 7) (by omega)).2, (h.2 (S + 1 + 7) (by omega)).1, (h.2 (S + 1 + 7 + 1) (by omega)).1, (h.2 (S + 1 + 7 + 2) (by omega)).1, (h.2 (S + 1 + 7 + 4) (by omega)).1, (h.2 (S + 1 + 7 + 5) (by omega)).1, (h.2 (S + 148) (by omega)).1, (h.2 (S + 149) (by omega)).1, (h.2 (S + 150) (by omega)).1, (h.2 (S + 151) (by omega)).1, (h.2 (S + 14) (by omega)).1⟩
theorem R9.q {M N : SM} {S sb L n R : Nat} (h : R9 M S sb L n R) (hF : Fq M N S) : R9 N S sb L n R := by
  obtain ⟨g0, g1, g2, g3, g4, g5, g6, g7, g8, g9, g10, g11, g12, g13, g14, g15, g16⟩ := hF.rows
  obtain ⟨h1, h2, ⟨w, h3⟩, h4, h5, h6, h7, h8, h9, h10, h11, h12, h13⟩ := h
  have eS : mS N = mS M := congrArg (fun z => z.2.2.1) hF.1
  refine ⟨h1.st hF.1, h2.fr g16, ⟨w, SR_eq h3 (fun b b1 b2 => hF.2 b (by omega))⟩, ⟨h4.1, by rw [KK hF.1]; exact h4.2⟩, ?_, h6, h7, ?_, ?_, ?_, ?_, ?_, ?_⟩
  · rw [KK hF.1, eS]; exact h5
  · rw [g0, g1, g2]; exact h8
  · rw [g11]; exact h9
  · rw [g12, g5]; exact h10
  · rw [g13, g0, g1, g2, g8, g9]; exact h11
  · rw [g14, g3]; exact h12
  · rw [g15, g10, g11]; exact h13
theorem ClsAt.s4 {M N : SM} {S : Nat} (h : ClsAt M S) (e : ∀ b, b < S + 155 → S4 M N b) : ClsAt N S := by
  obtain ⟨a, b, c, d, f⟩ := h
  refine ⟨?_, b.s4 (fun b h1 h2 => e b (by omega)), ⟨?_, ?_, ?_, fun i hi => ⟨?_, (c.2.2.2 i hi).2.s4 (fun b h1 h2 => e b (by omega))⟩⟩, d.s4 (fun b h1 h2 => e b (by omega)), f.s4 (fun b h1 h2 => e b (by omega))⟩
  · rw [(e S (by omega)).1, (e S (by omega)).2.2.2]; exact a
  · rw [(e (S + 14) (by omega)).1]; exact c.1
  · rw [(e (S + 14) (by omega)).2.2.2]; exact c.2.1
  · rw [(e (S + 15) (by omega)).1]; exact c.2.2.1
  · rw [(e (S + 15) (by omega)).2.2.2]; exact (c.2.2.2 i hi).1
theorem R9.s4 {M N : SM} {S sb L n R : Nat} (h : R9 M S sb L n R) (e : ∀ b, b < S + 155 → S4 M N b) (eS : mS M ≤ mS N) : R9 N S sb L n R := by
  obtain ⟨h1, h2, ⟨w, h3⟩, h4, h5, h6, h7, h8, h9, h10, h11, h12, h13⟩ := h
  have i : ∀ b, b < S + 155 → mI N b = mI M b := fun b hb => (e b hb).2.1
  have j : ∀ b, b < S + 155 → mJ N b = mJ M b := fun b hb => (e b hb).2.2.1
  have k : ∀ b, b < S + 155 → mK N b = mK M b := fun b hb => (e b hb).1
  refine ⟨h1.s4 e, h2.fr (i _ (by omega)), ⟨w, SR_eq h3 (fun b b1 b2 => ⟨i b (by omega), j b (by omega)⟩)⟩, ⟨h4.1, by rw [k sb (by omega)]; exact h4.2⟩, ?_, h6, h7, ?_, ?_, ?_, ?_, ?_, ?_⟩
  · rw [k (S + 148) (by omega), k (S + 149) (by omega), k (S + 150) (by omega), k (S + 151) (by omega), k (S + 152) (by omega), k (S + 153) (by omega), k (S + 154) (by omega)]
    obtain ⟨a1, a2, a3, a4, a5, a6, a7, a8⟩ := h5
    exact ⟨a1, a2, a3, a4, a5, a6, a7, by omega⟩
  · rw [i (S + 1 + 1 + 1) (by omega), i (S + 1 + 1 + 2) (by omega), i (S + 1 + 1 + 3) (by omega)]; exact h8
  · rw [i (S + 1 + 7 + 5) (by omega)]; exact h9
  · rw [i (S + 148) (by omega), j (S + 1 + 1) (by omega)]; exact h10
  · rw [i (S + 149) (by omega), i (S + 1 + 1 + 1) (by omega), i (S + 1 + 1 + 2) (by omega), i (S + 1 + 1 + 3) (by omega), i (S + 1 + 7 + 1) (by omega), i (S + 1 + 7 + 2) (by omega)]; exact h11
  · rw [i (S + 150) (by omega), j (S + 1 + 1 + 4) (by omega)]; exact h12
  · rw [i (S + 151) (by omega), i (S + 1 + 7 + 4) (by omega), i (S + 1 + 7 + 5) (by omega)]; exact h13
theorem q_ent0 {M N : SM} {S sb L n R e : Nat} (h : R9 M S sb L n R) (hF : Fq M N S) (he : e < n) : cl 70 [.ref S, .int (nI e), .int 0] N = some (some (.int (mI M (S + 1 + 1 + 1) e)), N) := by
  obtain ⟨g0, g1, g2, g3, g4, g5, g6, g7, g8, g9, g10, g11, g12, g13, g14, g15, g16⟩ := hF.rows
  obtain ⟨w, hw⟩ := (h.q hF).2.2.1
  have hC := (h.q hF).1
  have z := a_ent0 hC hw he
  rw [g0] at z
  exact z
theorem q_ent1 {M N : SM} {S sb L n R e : Nat} (h : R9 M S sb L n R) (hF : Fq M N S) (he : e < n) : cl 70 [.ref S, .int (nI e), .int 1] N = some (some (.int (mI M (S + 1 + 1 + 2) e)), N) := by
  obtain ⟨g0, g1, g2, g3, g4, g5, g6, g7, g8, g9, g10, g11, g12, g13, g14, g15, g16⟩ := hF.rows
  obtain ⟨w, hw⟩ := (h.q hF).2.2.1
  have hC := (h.q hF).1
  have z := a_ent1 hC hw he
  rw [g1] at z
  exact z
theorem q_ent2 {M N : SM} {S sb L n R e : Nat} (h : R9 M S sb L n R) (hF : Fq M N S) (he : e < n) : cl 70 [.ref S, .int (nI e), .int 2] N = some (some (.int (mI M (S + 1 + 1 + 3) e)), N) := by
  obtain ⟨g0, g1, g2, g3, g4, g5, g6, g7, g8, g9, g10, g11, g12, g13, g14, g15, g16⟩ := hF.rows
  obtain ⟨w, hw⟩ := (h.q hF).2.2.1
  have hC := (h.q hF).1
  have z := a_ent2 hC hw he
  rw [g2] at z
  exact z
theorem q_ent3 {M N : SM} {S sb L n R e : Nat} (h : R9 M S sb L n R) (hF : Fq M N S) (he : e < n) : cl 70 [.ref S, .int (nI e), .int 3] N = some (some (.int (if bt (mJ M (S + 1 + 1) 1) e = true then 1 else 0)), N) := by
  obtain ⟨g0, g1, g2, g3, g4, g5, g6, g7, g8, g9, g10, g11, g12, g13, g14, g15, g16⟩ := hF.rows
  obtain ⟨w, hw⟩ := (h.q hF).2.2.1
  have hC := (h.q hF).1
  have z := a_ent3 hC hw he
  rw [g5] at z
  exact z
theorem q_ent4 {M N : SM} {S sb L n R e : Nat} (h : R9 M S sb L n R) (hF : Fq M N S) (he : e < n) : cl 70 [.ref S, .int (nI e), .int 4] N = some (some (.int (if bt (orpB (mJ M (S + 1 + 1 + 5)) n (mJ M (S + 1 + 1) 1)) e = true then 1 else 0)), N) := by
  obtain ⟨g0, g1, g2, g3, g4, g5, g6, g7, g8, g9, g10, g11, g12, g13, g14, g15, g16⟩ := hF.rows
  obtain ⟨w, hw⟩ := (h.q hF).2.2.1
  have hC := (h.q hF).1
  have z := a_ent4 hC hw he
  rw [g4, g5] at z
  exact z
theorem q_ent5 {M N : SM} {S sb L n R e : Nat} (h : R9 M S sb L n R) (hF : Fq M N S) (he : e < n) : cl 70 [.ref S, .int (nI e), .int 5] N = some (some (.int (mI M (S + 1 + 7 + 1) e)), N) := by
  obtain ⟨g0, g1, g2, g3, g4, g5, g6, g7, g8, g9, g10, g11, g12, g13, g14, g15, g16⟩ := hF.rows
  obtain ⟨w, hw⟩ := (h.q hF).2.2.1
  have hC := (h.q hF).1
  have z := a_ent5 hC hw he
  rw [g8] at z
  exact z
theorem q_ent6 {M N : SM} {S sb L n R e : Nat} (h : R9 M S sb L n R) (hF : Fq M N S) (he : e < n) : cl 70 [.ref S, .int (nI e), .int 6] N = some (some (.int (mI M (S + 1 + 7 + 2) e)), N) := by
  obtain ⟨g0, g1, g2, g3, g4, g5, g6, g7, g8, g9, g10, g11, g12, g13, g14, g15, g16⟩ := hF.rows
  obtain ⟨w, hw⟩ := (h.q hF).2.2.1
  have hC := (h.q hF).1
  have z := a_ent6 hC hw he
  rw [g9] at z
  exact z
theorem q_ent7 {M N : SM} {S sb L n R e : Nat} (h : R9 M S sb L n R) (hF : Fq M N S) (he : e < n) : cl 70 [.ref S, .int (nI e), .int 7] N = some (some (.int (nI (cnt (bt (mJ M (S + 1 + 1 + 4) e)) 64))), N) := by
  obtain ⟨g0, g1, g2, g3, g4, g5, g6, g7, g8, g9, g10, g11, g12, g13, g14, g15, g16⟩ := hF.rows
  obtain ⟨w, hw⟩ := (h.q hF).2.2.1
  have hC := (h.q hF).1
  have z := a_ent7 hC hw he
  rw [g3] at z
  exact z
theorem q_ent8 {M N : SM} {S sb L n R e : Nat} (h : R9 M S sb L n R) (hF : Fq M N S) (he : e < n) : cl 70 [.ref S, .int (nI e), .int 8] N = some (some (.int (nI (cnt (fun k => decide (e < k) && bt (mJ M (S + 1 + 1 + 5) k) e) n))), N) := by
  obtain ⟨g0, g1, g2, g3, g4, g5, g6, g7, g8, g9, g10, g11, g12, g13, g14, g15, g16⟩ := hF.rows
  obtain ⟨w, hw⟩ := (h.q hF).2.2.1
  have hC := (h.q hF).1
  have z := a_ent8 hC hw he
  rw [g4] at z
  exact z
theorem q_deps {M N : SM} {S sb L n R e : Nat} (h : R9 M S sb L n R) (hF : Fq M N S) (he : e < n) : cl 72 [.ref S, .int (nI e)] N = some (some (.long (mJ M (S + 1 + 1 + 4) e)), N) := by
  obtain ⟨g0, g1, g2, g3, g4, g5, g6, g7, g8, g9, g10, g11, g12, g13, g14, g15, g16⟩ := hF.rows
  obtain ⟨w, hw⟩ := (h.q hF).2.2.1
  have hC := (h.q hF).1
  have z := a_deps hC hw he
  rw [g3] at z
  exact z
theorem q_wants {M N : SM} {S sb L n R e : Nat} (h : R9 M S sb L n R) (hF : Fq M N S) (he : e < n) : cl 77 [.ref S, .int (nI e)] N = some (some (.long (((mJ M (S + 1 + 1 + 5) e ||| bE e) &&& mJ M (S + 1 + 1) 1))), N) := by
  obtain ⟨g0, g1, g2, g3, g4, g5, g6, g7, g8, g9, g10, g11, g12, g13, g14, g15, g16⟩ := hF.rows
  obtain ⟨w, hw⟩ := (h.q hF).2.2.1
  have hC := (h.q hF).1
  have z := a_wants hC hw he
  rw [g4, g5] at z
  exact z
theorem q_depth {M N : SM} {S sb L n R e : Nat} (h : R9 M S sb L n R) (hF : Fq M N S) (he : e < n) : ∃ N1 v, cl 73 [.ref S, .int (nI e)] N = some (some (.int v), N1) ∧ Fq M N1 S ∧ (live (mJ M (S + 1 + 1 + 5)) (mJ M (S + 1 + 1) 1) e → v = nI (depT (mJ M (S + 1 + 1 + 4)) n e)) ∧ (¬ live (mJ M (S + 1 + 1 + 5)) (mJ M (S + 1 + 1) 1) e → v = -6) := by
  obtain ⟨g0, g1, g2, g3, g4, g5, g6, g7, g8, g9, g10, g11, g12, g13, g14, g15, g16⟩ := hF.rows
  obtain ⟨w, hw⟩ := (h.q hF).2.2.1
  have hC := (h.q hF).1
  obtain ⟨N1, v, z1, z2, z3, z4⟩ := a_depth hC hw he
  rw [g4, g5, g3] at z3
  rw [g4, g5] at z4
  exact ⟨N1, v, z1, hF.trans (Fq.of z2 (by omega)), z3, z4⟩
theorem q_file0 {M N : SM} {S sb L n R f : Nat} (h : R9 M S sb L n R) (hF : Fq M N S) (hf : f < 16) : cl 78 [.ref S, .int (nI f), .int 0] N = some (some (.int (if mI M (S + 1 + 7 + 5) f = -6 then 0 else 1)), N) := by
  obtain ⟨g0, g1, g2, g3, g4, g5, g6, g7, g8, g9, g10, g11, g12, g13, g14, g15, g16⟩ := hF.rows
  obtain ⟨w, hw⟩ := (h.q hF).2.2.1
  have hC := (h.q hF).1
  have z := a_file0 hC hw hf
  have eD : tD N (S + 1 + 7 + 3) = mI M (S + 1 + 7 + 4) := g10
  have eV : tV N (S + 1 + 7 + 3) = mI M (S + 1 + 7 + 5) := g11
  rw [eV] at z
  exact z
theorem q_file1 {M N : SM} {S sb L n R f : Nat} (h : R9 M S sb L n R) (hF : Fq M N S) (hf : f < 16) : cl 78 [.ref S, .int (nI f), .int 1] N = some (some (.int (mI M (S + 1 + 7 + 4) f)), N) := by
  obtain ⟨g0, g1, g2, g3, g4, g5, g6, g7, g8, g9, g10, g11, g12, g13, g14, g15, g16⟩ := hF.rows
  obtain ⟨w, hw⟩ := (h.q hF).2.2.1
  have hC := (h.q hF).1
  have z := a_file1 hC hw hf
  have eD : tD N (S + 1 + 7 + 3) = mI M (S + 1 + 7 + 4) := g10
  have eV : tV N (S + 1 + 7 + 3) = mI M (S + 1 + 7 + 5) := g11
  rw [eD] at z
  exact z
theorem q_file2 {M N : SM} {S sb L n R f : Nat} (h : R9 M S sb L n R) (hF : Fq M N S) (hf : f < 16) : cl 78 [.ref S, .int (nI f), .int 2] N = some (some (.int (mI M (S + 1 + 7 + 5) f)), N) := by
  obtain ⟨g0, g1, g2, g3, g4, g5, g6, g7, g8, g9, g10, g11, g12, g13, g14, g15, g16⟩ := hF.rows
  obtain ⟨w, hw⟩ := (h.q hF).2.2.1
  have hC := (h.q hF).1
  have z := a_file2 hC hw hf
  have eD : tD N (S + 1 + 7 + 3) = mI M (S + 1 + 7 + 4) := g10
  have eV : tV N (S + 1 + 7 + 3) = mI M (S + 1 + 7 + 5) := g11
  rw [eV] at z
  exact z
theorem q_file3 {M N : SM} {S sb L n R f : Nat} (h : R9 M S sb L n R) (hF : Fq M N S) (hf : f < 16) : cl 78 [.ref S, .int (nI f), .int 3] N = some (some (.int (m32 (fun g => decide (mI M (S + 1 + 7 + 4) g = nI f)) 16)), N) := by
  obtain ⟨g0, g1, g2, g3, g4, g5, g6, g7, g8, g9, g10, g11, g12, g13, g14, g15, g16⟩ := hF.rows
  obtain ⟨w, hw⟩ := (h.q hF).2.2.1
  have hC := (h.q hF).1
  have z := a_file3 hC hw hf
  have eD : tD N (S + 1 + 7 + 3) = mI M (S + 1 + 7 + 4) := g10
  have eV : tV N (S + 1 + 7 + 3) = mI M (S + 1 + 7 + 5) := g11
  rw [eD] at z
  exact z
theorem q_file4 {M N : SM} {S sb L n R f : Nat} (h : R9 M S sb L n R) (hF : Fq M N S) (hf : f < 16) : cl 78 [.ref S, .int (nI f), .int 4] N = some (some (.int (if mI M (S + 1 + 7 + 5) f = -6 then -6 else nI (upN (mI M (S + 1 + 7 + 4)) 16 (mI M (S + 1 + 7 + 4) f)))), N) := by
  obtain ⟨g0, g1, g2, g3, g4, g5, g6, g7, g8, g9, g10, g11, g12, g13, g14, g15, g16⟩ := hF.rows
  obtain ⟨w, hw⟩ := (h.q hF).2.2.1
  have hC := (h.q hF).1
  have z := a_file4 hC hw hf
  have eD : tD N (S + 1 + 7 + 3) = mI M (S + 1 + 7 + 4) := g10
  have eV : tV N (S + 1 + 7 + 3) = mI M (S + 1 + 7 + 5) := g11
  rw [eV, eD] at z
  exact z
theorem q_file5 {M N : SM} {S sb L n R f : Nat} (h : R9 M S sb L n R) (hF : Fq M N S) (hf : f < 16) : cl 78 [.ref S, .int (nI f), .int 5] N = some (some (.int (nI (cnt (fun g => !decide (nI g = nI f) && lies (mI M (S + 1 + 7 + 4)) 16 (nI g) (nI f)) 16))), N) := by
  obtain ⟨g0, g1, g2, g3, g4, g5, g6, g7, g8, g9, g10, g11, g12, g13, g14, g15, g16⟩ := hF.rows
  obtain ⟨w, hw⟩ := (h.q hF).2.2.1
  have hC := (h.q hF).1
  have z := a_file5 hC hw hf
  have eD : tD N (S + 1 + 7 + 3) = mI M (S + 1 + 7 + 4) := g10
  have eV : tV N (S + 1 + 7 + 3) = mI M (S + 1 + 7 + 5) := g11
  rw [eD] at z
  exact z
theorem q_cnt0 {M N : SM} {S sb L n R : Nat} (h : R9 M S sb L n R) (hF : Fq M N S) : cl 84 [.ref S, .int 0] N = some (some (.int (nI n)), N) := by
  obtain ⟨g0, g1, g2, g3, g4, g5, g6, g7, g8, g9, g10, g11, g12, g13, g14, g15, g16⟩ := hF.rows
  obtain ⟨w, hw⟩ := (h.q hF).2.2.1
  have hC := (h.q hF).1
  have z := a_cnt0 hC hw
  exact z
theorem q_cnt1 {M N : SM} {S sb L n R : Nat} (h : R9 M S sb L n R) (hF : Fq M N S) : cl 84 [.ref S, .int 1] N = some (some (.int (nI (cnt (bt (mJ M (S + 1 + 1) 1)) 64))), N) := by
  obtain ⟨g0, g1, g2, g3, g4, g5, g6, g7, g8, g9, g10, g11, g12, g13, g14, g15, g16⟩ := hF.rows
  obtain ⟨w, hw⟩ := (h.q hF).2.2.1
  have hC := (h.q hF).1
  have z := a_cnt1 hC hw
  rw [g5] at z
  exact z
theorem q_cnt2 {M N : SM} {S sb L n R : Nat} (h : R9 M S sb L n R) (hF : Fq M N S) : cl 84 [.ref S, .int 2] N = some (some (.int (nI (cnt (bt (orpB (mJ M (S + 1 + 1 + 5)) n (mJ M (S + 1 + 1) 1))) 64))), N) := by
  obtain ⟨g0, g1, g2, g3, g4, g5, g6, g7, g8, g9, g10, g11, g12, g13, g14, g15, g16⟩ := hF.rows
  obtain ⟨w, hw⟩ := (h.q hF).2.2.1
  have hC := (h.q hF).1
  have z := a_cnt2 hC hw
  rw [g4, g5] at z
  exact z
theorem q_cnt3 {M N : SM} {S sb L n R : Nat} (h : R9 M S sb L n R) (hF : Fq M N S) : cl 84 [.ref S, .int 3] N = some (some (.int (nI (cnt (bt (mJ M (S + 1 + 7) 0)) 64))), N) := by
  obtain ⟨g0, g1, g2, g3, g4, g5, g6, g7, g8, g9, g10, g11, g12, g13, g14, g15, g16⟩ := hF.rows
  obtain ⟨w, hw⟩ := (h.q hF).2.2.1
  have hC := (h.q hF).1
  have z := a_cnt3 hC hw
  rw [g6] at z
  exact z
theorem q_cnt4 {M N : SM} {S sb L n R : Nat} (h : R9 M S sb L n R) (hF : Fq M N S) : cl 84 [.ref S, .int 4] N = some (some (.int (nI (cnt (bt (mJ M (S + 1 + 7) 1)) 64))), N) := by
  obtain ⟨g0, g1, g2, g3, g4, g5, g6, g7, g8, g9, g10, g11, g12, g13, g14, g15, g16⟩ := hF.rows
  obtain ⟨w, hw⟩ := (h.q hF).2.2.1
  have hC := (h.q hF).1
  have z := a_cnt4 hC hw
  rw [g6] at z
  exact z
theorem q_cnt5 {M N : SM} {S sb L n R : Nat} (h : R9 M S sb L n R) (hF : Fq M N S) : cl 84 [.ref S, .int 5] N = some (some (.int (mI M (S + 1 + 7) 2)), N) := by
  obtain ⟨g0, g1, g2, g3, g4, g5, g6, g7, g8, g9, g10, g11, g12, g13, g14, g15, g16⟩ := hF.rows
  obtain ⟨w, hw⟩ := (h.q hF).2.2.1
  have hC := (h.q hF).1
  have z := a_cnt5 hC hw
  rw [g7] at z
  exact z
theorem q_cnt6 {M N : SM} {S sb L n R : Nat} (h : R9 M S sb L n R) (hF : Fq M N S) : cl 84 [.ref S, .int 6] N = some (some (.int (nI (cnt (fun f => !decide (mI M (S + 1 + 7 + 5) f = -6)) 16))), N) := by
  obtain ⟨g0, g1, g2, g3, g4, g5, g6, g7, g8, g9, g10, g11, g12, g13, g14, g15, g16⟩ := hF.rows
  obtain ⟨w, hw⟩ := (h.q hF).2.2.1
  have hC := (h.q hF).1
  have z := a_cnt6 hC hw
  have eV : tV N (S + 1 + 7 + 3) = mI M (S + 1 + 7 + 5) := g11
  rw [eV] at z
  exact z
theorem q_cnt7 {M N : SM} {S sb L n R : Nat} (h : R9 M S sb L n R) (hF : Fq M N S) : cl 84 [.ref S, .int 7] N = some (some (.int (mI M (S + 1 + 7) 3)), N) := by
  obtain ⟨g0, g1, g2, g3, g4, g5, g6, g7, g8, g9, g10, g11, g12, g13, g14, g15, g16⟩ := hF.rows
  obtain ⟨w, hw⟩ := (h.q hF).2.2.1
  have hC := (h.q hF).1
  have z := a_cnt7 hC hw
  rw [g7] at z
  exact z
theorem q_set0 {M N : SM} {S sb L n R : Nat} (h : R9 M S sb L n R) (hF : Fq M N S) : cl 86 [.ref S, .int 0] N = some (some (.long (mJ M (S + 1 + 1) 1)), N) := by
  obtain ⟨g0, g1, g2, g3, g4, g5, g6, g7, g8, g9, g10, g11, g12, g13, g14, g15, g16⟩ := hF.rows
  obtain ⟨w, hw⟩ := (h.q hF).2.2.1
  have hC := (h.q hF).1
  have z := a_set0 hC hw
  rw [g5] at z
  exact z
theorem q_set1 {M N : SM} {S sb L n R : Nat} (h : R9 M S sb L n R) (hF : Fq M N S) : cl 86 [.ref S, .int 1] N = some (some (.long (orpB (mJ M (S + 1 + 1 + 5)) n (mJ M (S + 1 + 1) 1))), N) := by
  obtain ⟨g0, g1, g2, g3, g4, g5, g6, g7, g8, g9, g10, g11, g12, g13, g14, g15, g16⟩ := hF.rows
  obtain ⟨w, hw⟩ := (h.q hF).2.2.1
  have hC := (h.q hF).1
  have z := a_set1 hC hw
  rw [g4, g5] at z
  exact z
theorem q_set2 {M N : SM} {S sb L n R : Nat} (h : R9 M S sb L n R) (hF : Fq M N S) : cl 86 [.ref S, .int 2] N = some (some (.long (mJ M (S + 1 + 7) 0)), N) := by
  obtain ⟨g0, g1, g2, g3, g4, g5, g6, g7, g8, g9, g10, g11, g12, g13, g14, g15, g16⟩ := hF.rows
  obtain ⟨w, hw⟩ := (h.q hF).2.2.1
  have hC := (h.q hF).1
  have z := a_set2 hC hw
  rw [g6] at z
  exact z
theorem q_set3 {M N : SM} {S sb L n R : Nat} (h : R9 M S sb L n R) (hF : Fq M N S) : cl 86 [.ref S, .int 3] N = some (some (.long (mJ M (S + 1 + 7) 1)), N) := by
  obtain ⟨g0, g1, g2, g3, g4, g5, g6, g7, g8, g9, g10, g11, g12, g13, g14, g15, g16⟩ := hF.rows
  obtain ⟨w, hw⟩ := (h.q hF).2.2.1
  have hC := (h.q hF).1
  have z := a_set3 hC hw
  rw [g6] at z
  exact z
theorem q_set4 {M N : SM} {S sb L n R : Nat} (h : R9 M S sb L n R) (hF : Fq M N S) : cl 86 [.ref S, .int 4] N = some (some (.long (rdyB (mJ M (S + 1 + 1 + 4)) n (mJ M (S + 1 + 1) 1) (mJ M (S + 1 + 7) 0))), N) := by
  obtain ⟨g0, g1, g2, g3, g4, g5, g6, g7, g8, g9, g10, g11, g12, g13, g14, g15, g16⟩ := hF.rows
  obtain ⟨w, hw⟩ := (h.q hF).2.2.1
  have hC := (h.q hF).1
  have z := a_set4 hC hw
  rw [g3, g5, g6] at z
  exact z
theorem q_worst {M N : SM} {S sb L n R : Nat} (h : R9 M S sb L n R) (hF : Fq M N S) {x : Int32} (hx : x = 0 ∨ x = 1) : cl 83 [.ref S, .int x] N = some (some (.int (if x = 0 then (wst (mJ M (S + 1 + 1) 1) (fun k => cnt (bt (orpB (mJ M (S + 1 + 1 + 5)) n (mJ M (S + 1 + 1) 1 ||| bE k))) 64) n).1 else (wst (mJ M (S + 1 + 1) 1) (fun k => cnt (bt (orpB (mJ M (S + 1 + 1 + 5)) n (mJ M (S + 1 + 1) 1 ||| bE k))) 64) n).2)), N) := by
  obtain ⟨g0, g1, g2, g3, g4, g5, g6, g7, g8, g9, g10, g11, g12, g13, g14, g15, g16⟩ := hF.rows
  obtain ⟨w, hw⟩ := (h.q hF).2.2.1
  have hC := (h.q hF).1
  have z := a_worst hC hw hx
  rw [g4, g5] at z
  exact z
