/-! the law, from its start -/
theorem rel_0 {M1 M2 : SM} {S b L : Nat} {xs : Nat → Int32} (hb : b < S) (hkb : mK M2 b = (5, L)) (hxb : mI M2 b = xs) (hS : mS M2 = S + 158) (hU : mU M2 ≤ 7302250) (h4 : ∀ b, b < S + 148 → S4 M1 M2 b)
    (c1 : mK M1 S = (10, 0) ∧ mP M1 S 0 = some (S + 1) ∧ mP M1 S 1 = some (S + 14) ∧ mP M1 S 2 = some (S + 107) ∧ mP M1 S 3 = some (S + 108) ∧ mP M1 (S + 108) 0 = some (S + 109) ∧ mP M1 S 4 = some (S + 111) ∧ mP M1 S 5 = some (S + 117))
    (c2 : StAt M1 (S + 1)) (c3 : INI M1 (S + 1))
    (c4 : mK M1 (S + 14) = (15, 0) ∧ mP M1 (S + 14) 0 = some (S + 15) ∧ mK M1 (S + 15) = (3, 7) ∧ ∀ i, i < 7 → mP M1 (S + 15) i = some (S + 16 + 13 * i) ∧ StAt M1 (S + 16 + 13 * i))
    (c5 : mK M1 (S + 107) = (4, 2) ∧ ∀ i, i < 2 → SlotP M1 S i)
    (c6 : mK M1 (S + 109) = (17, 0) ∧ mP M1 (S + 109) 0 = some (S + 110) ∧ mK M1 (S + 110) = (1, 80))
    (c7 : mK M1 (S + 108) = (16, 0) ∧ mP M1 (S + 108) 0 = some (S + 109)) (c8 : RepAt M1 (S + 111)) (c9 : TreeAt M1 (S + 117))
    (z14 : mI M1 (S + 14) = fun _ => 0) (z108 : mI M1 (S + 109) = fun _ => 0)
    (m1 : ModAt M2 (S + 148)) (m2 : mI M2 (S + 148) = fun _ => 0) (m3 : mI M2 (S + 149) 0 = 0) (m4 : mI M2 (S + 149) 1 = 0) (m5 : TR (mI M2 (S + 149)) D0 V0) (m6 : mI M2 (S + 153) = fun _ => 0) : Rel M2 S b L xs 0 := by
  have hc3 : INI M2 (S + 1) := c3.s4 (fun b h1 h2 => h4 b (by omega))
  refine ⟨⟨⟨?_, c2.s4 (fun b h1 h2 => h4 b (by omega)), ⟨?_, ?_, ?_, fun i hi => ⟨?_, (c4.2.2.2 i hi).2.s4 (fun b h1 h2 => h4 b (by omega))⟩⟩, ⟨?_, fun i hi => ?_⟩, ⟨?_, ?_, ?_⟩, ⟨?_, ?_⟩, c8.s4 (fun b h1 h2 => h4 b (by omega)), c9.s4 (fun b h1 h2 => h4 b (by omega)), m1, ⟨hb, hkb, hS, hU⟩⟩, ⟨0, 0, ⟨by decide, by decide, ?_, ?_, fun i hi => by omega⟩, ?_⟩, fun i hi => ?_, ⟨0, by decide, ?_, ?_, fun j hj => by omega⟩, hxb⟩, 0, 0, Nat.le_refl _, ?_⟩
  · rw [(h4 S (by omega)).1, (h4 S (by omega)).2.2.2, (h4 (S + 108) (by omega)).2.2.2]; exact c1
  · rw [(h4 (S + 14) (by omega)).1]; exact c4.1
  · rw [(h4 (S + 14) (by omega)).2.2.2]; exact c4.2.1
  · rw [(h4 (S + 15) (by omega)).1]; exact c4.2.2.1
  · rw [(h4 (S + 15) (by omega)).2.2.2]; exact (c4.2.2.2 i hi).1
  · rw [(h4 (S + 107) (by omega)).1]; exact c5.1
  · obtain ⟨u1, u2, u3, u4, u5⟩ := c5.2 i hi
    refine ⟨?_, ?_, ?_, u4.s4 (fun b h1 h2 => h4 b (by omega))⟩
    · rw [(h4 (S + 107) (by omega)).2.2.2]; exact u1
    · rw [(h4 (S + 120 + 14 * i) (by omega)).1]; exact u2
    · rw [(h4 (S + 120 + 14 * i) (by omega)).2.2.2]; exact u3
  · rw [(h4 (S + 109) (by omega)).1]; exact c6.1
  · rw [(h4 (S + 109) (by omega)).2.2.2]; exact c6.2.1
  · rw [(h4 (S + 110) (by omega)).1]; exact c6.2.2
  · rw [(h4 (S + 108) (by omega)).1]; exact c7.1
  · rw [(h4 (S + 108) (by omega)).2.2.2]; exact c7.2
  · rw [(h4 (S + 14) (by omega)).2.1, z14]; rfl
  · rw [(h4 (S + 14) (by omega)).2.1, z14]; rfl
  · rw [m2]; rfl
  · obtain ⟨u1, u2, u3, u4, u5⟩ := c5.2 i hi
    rw [m6]
    exact ⟨by rw [(h4 (S + 120 + 14 * i) (by omega)).2.1]; exact u5, Or.inl rfl⟩
  · rw [(h4 (S + 109) (by omega)).2.1, z108]; rfl
  · rw [m2]; rfl
  · refine ⟨⟨hc3.1, ?_⟩, hc3.2.2 _ m4 m5⟩
    refine ⟨by decide, m3, fun e he => by omega, fun e he => by omega, fun e he => by omega, fun e _ => ?_, fun e he => by omega, fun e he => by omega, fun e he => by omega⟩
    rw [hc3.2.1, bt_0]
theorem pure_law {b S L : Nat} {xs : Nat → Int32} (hL : L ≤ 1536) (hb : b < S) : ∃ M2 : SM, cl 176 [.ref b] (M0 b S L xs) = some (some (.int 1), M2) ∧ mS M2 ≤ 600000 + S ∧ mU M2 ≤ 7302250 := by
  obtain ⟨N0, hN0⟩ : ∃ N, N = M0 b S L xs := ⟨_, rfl⟩
  have s0 : mS N0 = S := by rw [hN0]; rfl
  have u0 : mU N0 = 0 := by rw [hN0]; rfl
  have k0 : mK N0 b = (5, L) := by rw [hN0]; exact if_pos rfl
  have x0 : mI N0 b = xs := by rw [hN0]; exact if_pos rfl
  obtain ⟨N1, hN1⟩ : ∃ N, N = nw N0 (10, 0) 6 := ⟨_, rfl⟩
  have f01 : S4 N0 N1 b := by rw [hN1]; exact S4.nw (by omega)
  have uN1 : mU N1 = 6 := by rw [hN1, mU_nw, u0]
  obtain ⟨M1, a1, a2, a3, a4, c1, c2, c3, c4, c5, c6, c7, c8, c9, z14, z108⟩ := c_newAll (M := N1) (S := S) (by rw [hN1, mS_nw, s0]) (by rw [hN1, nw_K, if_pos s0.symm])
  obtain ⟨N2, hN2⟩ : ∃ N, N = nw M1 (19, 0) 15 := ⟨_, rfl⟩
  have uN2 : mU N2 = mU M1 + 15 := by rw [hN2, mU_nw]
  obtain ⟨M2, b1, b2, b3, b4, b5, b6, b7, b8, b9, b10⟩ := c_newMod (M := N2) (a := S + 148) (by rw [hN2, mS_nw, a2]) (by rw [hN2, nw_K, if_pos a2.symm])
  have zm : mI N2 (S + 148) = fun _ => 0 := by rw [hN2, nw_I, if_pos a2.symm]
  have h4 : ∀ b, b < S + 148 → S4 M1 M2 b := fun b hb => by rw [hN2] at b4; exact of_new4 a2 hb b4
  have fb : S4 N0 M2 b := (f01.trans (a4 b hb)).trans (h4 b (by omega))
  have hrel := rel_0 (M1 := M1) (M2 := M2) (S := S) (b := b) (L := L) (xs := xs) hb (fb.1.trans k0) (fb.2.1.trans x0) b2 (by omega) h4 c1 c2 c3 c4 c5 c6 c7 c8 c9 z14 z108 b5 (b6.trans zm) b7 b8 b9 b10
  obtain ⟨M3, r1, r2, r3⟩ := law_loop hL 512 0 0 M2 (by omega) (by omega) hrel (by omega)
  refine ⟨M3, ?_, by omega, r3⟩
  rw [← hN0]
  show rn 176 0 [some (.ref b), none, none, none] [] N0 = _
  have z : nI 0 = 0 := rfl
  rw [z] at r1
  simp only [t176_0, t176_3, t176_4, s0]
  rw [← hN1, a1]
  simp only [cbn_v, t176_7, t176_8, t176_11, t176_12, a2]
  rw [← hN2, b1]
  simp only [cbn_v, t176_15, t176_16, t176_17]
  exact r1
