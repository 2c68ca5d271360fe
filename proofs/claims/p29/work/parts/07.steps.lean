/-! one instruction that is no call: the machine goes as the small machine goes -/
theorem nx_inj {a a' : Nat} {b b' : List (Option Value)} {c c' : List Value} {d d' : SM} (h : nx a b c d = some (a', b', c', d')) : a' = a ∧ b' = b ∧ c' = c ∧ d' = d := by
  unfold nx at h
  simp only [Option.some.injEq, Prod.mk.injEq] at h
  exact ⟨h.1.symm, h.2.1.symm, h.2.2.1.symm, h.2.2.2.symm⟩
theorem nxj_inj {a a' : Nat} {j : Int} {b b' : List (Option Value)} {c c' : List Value} {d d' : SM} (h : nxj a j b c d = some (a', b', c', d')) : (a : Int) + j = (a' : Int) ∧ b' = b ∧ c' = c ∧ d' = d := by
  unfold nxj at h
  split at h
  · rename_i h0
    obtain ⟨rfl, h2⟩ := nx_inj h
    exact ⟨(Int.toNat_of_nonneg h0).symm, h2⟩
  · cases h
theorem len1 {i : Instr} {len k : Nat} (h : lenOK i len = true) (hk : lenOK i len = (len == k)) : len = k := by
  rw [hk, beq_iff_eq] at h
  exact h
section ST
variable {p : Program} {l : Launch} {e : Env} {R : Room} {s : State} {m : MethodId} {args : Array Value} {below : List Frame} {meth : Method} {c : Code} {H : Heap} {locs : List Loc} {Q : State → Prop}
variable {G : GT} {q : Nat} {M M' : SM} {pc pc' len S0 U0 : Nat} {ls : Array Slot} {lv lv' : List (Option Value)} {st st' : List Value}
/-- the road on -/
def Kk (G : GT) (q : Nat) (p : Program) (l : Launch) (e : Env) (R : Room) (s : State) (m : MethodId) (args : Array Value) (below : List Frame) (meth : Method) (c : Code) (Q : State → Prop) (S0 U0 pc' : Nat) (lv' : List (Option Value)) (st' : List Value) (M' : SM) : Prop :=
  ∀ (H' : Heap) (locs' : List Loc) (ls' : Array Slot), Sd G q M' H' locs' ls' lv' → W p l e R s m args below meth c H' locs' (mS M' - S0) (mU M' - U0) Q (F0 m pc' ls' st')
theorem st_iload_n {k : Fin 4} (C : Cx G q p R s m args meth c) (S : Sd G q M H locs ls lv) (hq : q < 88) (hS0 : S0 ≤ mS M) (hU0 : U0 ≤ mU M) (hc : mS M' ≤ R.cells + S0) (hu : mU M' ≤ R.slots + U0) (hd : decode (mB q) pc = .ok ((.iload_n k), len)) (hl : lenOK (.iload_n k) len = true) (h : stp (.iload_n k) q pc lv st M = some (pc', lv', st', M')) (kk : Kk G q p l e R s m args below meth c Q S0 U0 pc' lv' st' M') : W p l e R s m args below meth c H locs (mS M - S0) (mU M - U0) Q (F0 m pc ls st) := by
  obtain rfl : len = 1 := len1 hl rfl
  unfold stp at h
  dsimp only at h
  split at h
  · rename_i x hx
    obtain ⟨rfl, rfl, rfl, rfl⟩ := nx_inj h
    exact lv_iload_n C.1 C.2.1 hd rfl (lA_get S.2.2.1 hx (fun z => absurd (show (1 : Nat) = 2 from z) (by decide))) (kk H locs ls S)
  · cases h
theorem st_iload {k : Nat} (C : Cx G q p R s m args meth c) (S : Sd G q M H locs ls lv) (hq : q < 88) (hS0 : S0 ≤ mS M) (hU0 : U0 ≤ mU M) (hc : mS M' ≤ R.cells + S0) (hu : mU M' ≤ R.slots + U0) (hd : decode (mB q) pc = .ok ((.iload k), len)) (hl : lenOK (.iload k) len = true) (h : stp (.iload k) q pc lv st M = some (pc', lv', st', M')) (kk : Kk G q p l e R s m args below meth c Q S0 U0 pc' lv' st' M') : W p l e R s m args below meth c H locs (mS M - S0) (mU M - U0) Q (F0 m pc ls st) := by
  obtain rfl : len = 2 := len1 hl rfl
  unfold stp at h
  dsimp only at h
  split at h
  · rename_i x hx
    obtain ⟨rfl, rfl, rfl, rfl⟩ := nx_inj h
    exact lv_iload C.1 C.2.1 hd (lA_get S.2.2.1 hx (fun z => absurd (show (1 : Nat) = 2 from z) (by decide))) (kk H locs ls S)
  · cases h
theorem st_aload_n {k : Fin 4} (C : Cx G q p R s m args meth c) (S : Sd G q M H locs ls lv) (hq : q < 88) (hS0 : S0 ≤ mS M) (hU0 : U0 ≤ mU M) (hc : mS M' ≤ R.cells + S0) (hu : mU M' ≤ R.slots + U0) (hd : decode (mB q) pc = .ok ((.aload_n k), len)) (hl : lenOK (.aload_n k) len = true) (h : stp (.aload_n k) q pc lv st M = some (pc', lv', st', M')) (kk : Kk G q p l e R s m args below meth c Q S0 U0 pc' lv' st' M') : W p l e R s m args below meth c H locs (mS M - S0) (mU M - U0) Q (F0 m pc ls st) := by
  obtain rfl : len = 1 := len1 hl rfl
  unfold stp at h
  dsimp only at h
  split at h
  · rename_i x hx
    obtain ⟨rfl, rfl, rfl, rfl⟩ := nx_inj h
    exact lv_aload_n C.1 C.2.1 hd rfl (lA_get S.2.2.1 hx (fun z => absurd (show (1 : Nat) = 2 from z) (by decide))) (kk H locs ls S)
  · cases h
theorem st_aload {k : Nat} (C : Cx G q p R s m args meth c) (S : Sd G q M H locs ls lv) (hq : q < 88) (hS0 : S0 ≤ mS M) (hU0 : U0 ≤ mU M) (hc : mS M' ≤ R.cells + S0) (hu : mU M' ≤ R.slots + U0) (hd : decode (mB q) pc = .ok ((.aload k), len)) (hl : lenOK (.aload k) len = true) (h : stp (.aload k) q pc lv st M = some (pc', lv', st', M')) (kk : Kk G q p l e R s m args below meth c Q S0 U0 pc' lv' st' M') : W p l e R s m args below meth c H locs (mS M - S0) (mU M - U0) Q (F0 m pc ls st) := by
  obtain rfl : len = 2 := len1 hl rfl
  unfold stp at h
  dsimp only at h
  split at h
  · rename_i x hx
    obtain ⟨rfl, rfl, rfl, rfl⟩ := nx_inj h
    exact lv_aload C.1 C.2.1 hd (lA_get S.2.2.1 hx (fun z => absurd (show (1 : Nat) = 2 from z) (by decide))) (kk H locs ls S)
  · cases h
theorem st_lload_n {k : Fin 4} (C : Cx G q p R s m args meth c) (S : Sd G q M H locs ls lv) (hq : q < 88) (hS0 : S0 ≤ mS M) (hU0 : U0 ≤ mU M) (hc : mS M' ≤ R.cells + S0) (hu : mU M' ≤ R.slots + U0) (hd : decode (mB q) pc = .ok ((.lload_n k), len)) (hl : lenOK (.lload_n k) len = true) (h : stp (.lload_n k) q pc lv st M = some (pc', lv', st', M')) (kk : Kk G q p l e R s m args below meth c Q S0 U0 pc' lv' st' M') : W p l e R s m args below meth c H locs (mS M - S0) (mU M - U0) Q (F0 m pc ls st) := by
  obtain rfl : len = 1 := len1 hl rfl
  unfold stp at h
  dsimp only at h
  split at h
  · rename_i x hx hx2
    obtain ⟨rfl, rfl, rfl, rfl⟩ := nx_inj h
    exact lv_lload_n C.1 C.2.1 hd rfl (lA_get S.2.2.1 hx (fun _ => hx2)) (kk H locs ls S)
  · cases h
theorem st_lload {k : Nat} (C : Cx G q p R s m args meth c) (S : Sd G q M H locs ls lv) (hq : q < 88) (hS0 : S0 ≤ mS M) (hU0 : U0 ≤ mU M) (hc : mS M' ≤ R.cells + S0) (hu : mU M' ≤ R.slots + U0) (hd : decode (mB q) pc = .ok ((.lload k), len)) (hl : lenOK (.lload k) len = true) (h : stp (.lload k) q pc lv st M = some (pc', lv', st', M')) (kk : Kk G q p l e R s m args below meth c Q S0 U0 pc' lv' st' M') : W p l e R s m args below meth c H locs (mS M - S0) (mU M - U0) Q (F0 m pc ls st) := by
  obtain rfl : len = 2 := len1 hl rfl
  unfold stp at h
  dsimp only at h
  split at h
  · rename_i x hx hx2
    obtain ⟨rfl, rfl, rfl, rfl⟩ := nx_inj h
    exact lv_lload C.1 C.2.1 hd (lA_get S.2.2.1 hx (fun _ => hx2)) (kk H locs ls S)
  · cases h
theorem st_istore_n {k : Fin 4} (C : Cx G q p R s m args meth c) (S : Sd G q M H locs ls lv) (hq : q < 88) (hS0 : S0 ≤ mS M) (hU0 : U0 ≤ mU M) (hc : mS M' ≤ R.cells + S0) (hu : mU M' ≤ R.slots + U0) (hd : decode (mB q) pc = .ok ((.istore_n k), len)) (hl : lenOK (.istore_n k) len = true) (h : stp (.istore_n k) q pc lv st M = some (pc', lv', st', M')) (kk : Kk G q p l e R s m args below meth c Q S0 U0 pc' lv' st' M') : W p l e R s m args below meth c H locs (mS M - S0) (mU M - U0) Q (F0 m pc ls st) := by
  obtain rfl : len = 1 := len1 hl rfl
  unfold stp at h
  dsimp only at h
  split at h
  · split at h
    · rename_i x r hlt
      obtain ⟨rfl, rfl, rfl, rfl⟩ := nx_inj h
      exact lv_istore_n C.1 C.2.1 hd rfl S.2.2.1 (by rw [← S.2.2.2]; exact hlt) rfl (fun ls' hl' => kk H locs ls' ⟨S.1, S.2.1, lA_set1 hl' hlt, by rw [List.length_set]; exact S.2.2.2⟩)
    · cases h
  · cases h
theorem st_istore {k : Nat} (C : Cx G q p R s m args meth c) (S : Sd G q M H locs ls lv) (hq : q < 88) (hS0 : S0 ≤ mS M) (hU0 : U0 ≤ mU M) (hc : mS M' ≤ R.cells + S0) (hu : mU M' ≤ R.slots + U0) (hd : decode (mB q) pc = .ok ((.istore k), len)) (hl : lenOK (.istore k) len = true) (h : stp (.istore k) q pc lv st M = some (pc', lv', st', M')) (kk : Kk G q p l e R s m args below meth c Q S0 U0 pc' lv' st' M') : W p l e R s m args below meth c H locs (mS M - S0) (mU M - U0) Q (F0 m pc ls st) := by
  obtain rfl : len = 2 := len1 hl rfl
  unfold stp at h
  dsimp only at h
  split at h
  · split at h
    · rename_i x r hlt
      obtain ⟨rfl, rfl, rfl, rfl⟩ := nx_inj h
      exact lv_istore C.1 C.2.1 hd S.2.2.1 (by rw [← S.2.2.2]; exact hlt) rfl (fun ls' hl' => kk H locs ls' ⟨S.1, S.2.1, lA_set1 hl' hlt, by rw [List.length_set]; exact S.2.2.2⟩)
    · cases h
  · cases h
theorem st_astore_n {k : Fin 4} (C : Cx G q p R s m args meth c) (S : Sd G q M H locs ls lv) (hq : q < 88) (hS0 : S0 ≤ mS M) (hU0 : U0 ≤ mU M) (hc : mS M' ≤ R.cells + S0) (hu : mU M' ≤ R.slots + U0) (hd : decode (mB q) pc = .ok ((.astore_n k), len)) (hl : lenOK (.astore_n k) len = true) (h : stp (.astore_n k) q pc lv st M = some (pc', lv', st', M')) (kk : Kk G q p l e R s m args below meth c Q S0 U0 pc' lv' st' M') : W p l e R s m args below meth c H locs (mS M - S0) (mU M - U0) Q (F0 m pc ls st) := by
  obtain rfl : len = 1 := len1 hl rfl
  unfold stp at h
  dsimp only at h
  split at h
  · split at h
    · rename_i x r hlt
      obtain ⟨rfl, rfl, rfl, rfl⟩ := nx_inj h
      exact lv_astore_n C.1 C.2.1 hd rfl S.2.2.1 (by rw [← S.2.2.2]; exact hlt) rfl (fun ls' hl' => kk H locs ls' ⟨S.1, S.2.1, lA_set1 hl' hlt, by rw [List.length_set]; exact S.2.2.2⟩)
    · cases h
  · cases h
theorem st_astore {k : Nat} (C : Cx G q p R s m args meth c) (S : Sd G q M H locs ls lv) (hq : q < 88) (hS0 : S0 ≤ mS M) (hU0 : U0 ≤ mU M) (hc : mS M' ≤ R.cells + S0) (hu : mU M' ≤ R.slots + U0) (hd : decode (mB q) pc = .ok ((.astore k), len)) (hl : lenOK (.astore k) len = true) (h : stp (.astore k) q pc lv st M = some (pc', lv', st', M')) (kk : Kk G q p l e R s m args below meth c Q S0 U0 pc' lv' st' M') : W p l e R s m args below meth c H locs (mS M - S0) (mU M - U0) Q (F0 m pc ls st) := by
  obtain rfl : len = 2 := len1 hl rfl
  unfold stp at h
  dsimp only at h
  split at h
  · split at h
    · rename_i x r hlt
      obtain ⟨rfl, rfl, rfl, rfl⟩ := nx_inj h
      exact lv_astore C.1 C.2.1 hd S.2.2.1 (by rw [← S.2.2.2]; exact hlt) rfl (fun ls' hl' => kk H locs ls' ⟨S.1, S.2.1, lA_set1 hl' hlt, by rw [List.length_set]; exact S.2.2.2⟩)
    · cases h
  · cases h
theorem st_lstore_n {k : Fin 4} (C : Cx G q p R s m args meth c) (S : Sd G q M H locs ls lv) (hq : q < 88) (hS0 : S0 ≤ mS M) (hU0 : U0 ≤ mU M) (hc : mS M' ≤ R.cells + S0) (hu : mU M' ≤ R.slots + U0) (hd : decode (mB q) pc = .ok ((.lstore_n k), len)) (hl : lenOK (.lstore_n k) len = true) (h : stp (.lstore_n k) q pc lv st M = some (pc', lv', st', M')) (kk : Kk G q p l e R s m args below meth c Q S0 U0 pc' lv' st' M') : W p l e R s m args below meth c H locs (mS M - S0) (mU M - U0) Q (F0 m pc ls st) := by
  obtain rfl : len = 1 := len1 hl rfl
  unfold stp at h
  dsimp only at h
  split at h
  · split at h
    · rename_i x r hlt
      obtain ⟨rfl, rfl, rfl, rfl⟩ := nx_inj h
      exact lv_lstore_n C.1 C.2.1 hd rfl S.2.2.1 (by rw [← S.2.2.2]; exact hlt) rfl (fun ls' hl' => kk H locs ls' ⟨S.1, S.2.1, lA_set2 hl' hlt, by rw [List.length_set, List.length_set]; exact S.2.2.2⟩)
    · cases h
  · cases h
theorem st_lstore {k : Nat} (C : Cx G q p R s m args meth c) (S : Sd G q M H locs ls lv) (hq : q < 88) (hS0 : S0 ≤ mS M) (hU0 : U0 ≤ mU M) (hc : mS M' ≤ R.cells + S0) (hu : mU M' ≤ R.slots + U0) (hd : decode (mB q) pc = .ok ((.lstore k), len)) (hl : lenOK (.lstore k) len = true) (h : stp (.lstore k) q pc lv st M = some (pc', lv', st', M')) (kk : Kk G q p l e R s m args below meth c Q S0 U0 pc' lv' st' M') : W p l e R s m args below meth c H locs (mS M - S0) (mU M - U0) Q (F0 m pc ls st) := by
  obtain rfl : len = 2 := len1 hl rfl
  unfold stp at h
  dsimp only at h
  split at h
  · split at h
    · rename_i x r hlt
      obtain ⟨rfl, rfl, rfl, rfl⟩ := nx_inj h
      exact lv_lstore C.1 C.2.1 hd S.2.2.1 (by rw [← S.2.2.2]; exact hlt) rfl (fun ls' hl' => kk H locs ls' ⟨S.1, S.2.1, lA_set2 hl' hlt, by rw [List.length_set, List.length_set]; exact S.2.2.2⟩)
    · cases h
  · cases h
theorem st_iinc {k : Nat} {n : Int} (C : Cx G q p R s m args meth c) (S : Sd G q M H locs ls lv) (hq : q < 88) (hS0 : S0 ≤ mS M) (hU0 : U0 ≤ mU M) (hc : mS M' ≤ R.cells + S0) (hu : mU M' ≤ R.slots + U0) (hd : decode (mB q) pc = .ok ((.iinc k n), len)) (hl : lenOK (.iinc k n) len = true) (h : stp (.iinc k n) q pc lv st M = some (pc', lv', st', M')) (kk : Kk G q p l e R s m args below meth c Q S0 U0 pc' lv' st' M') : W p l e R s m args below meth c H locs (mS M - S0) (mU M - U0) Q (F0 m pc ls st) := by
  obtain rfl : len = 3 := len1 hl rfl
  unfold stp at h
  dsimp only at h
  split at h
  · rename_i x hx
    obtain ⟨rfl, rfl, rfl, rfl⟩ := nx_inj h
    have hlt : k < lv.length := (List.getElem?_eq_some_iff.mp hx).1
    obtain ⟨j, hj⟩ := List.getElem?_of_mem (lA_mem.mpr ⟨hx, (fun z => absurd (show (1 : Nat) = 2 from z) (by decide))⟩)
    exact lv_iinc C.1 C.2.1 hd S.2.2.1 hj rfl (by rw [← S.2.2.2]; exact hlt) rfl (fun ls' hl' => kk H locs ls' ⟨S.1, S.2.1, lA_set1 hl' hlt, by rw [List.length_set]; exact S.2.2.2⟩)
  · cases h
theorem st_iconst {n : Int} (C : Cx G q p R s m args meth c) (S : Sd G q M H locs ls lv) (hq : q < 88) (hS0 : S0 ≤ mS M) (hU0 : U0 ≤ mU M) (hc : mS M' ≤ R.cells + S0) (hu : mU M' ≤ R.slots + U0) (hd : decode (mB q) pc = .ok ((.iconst n), len)) (hl : lenOK (.iconst n) len = true) (h : stp (.iconst n) q pc lv st M = some (pc', lv', st', M')) (kk : Kk G q p l e R s m args below meth c Q S0 U0 pc' lv' st' M') : W p l e R s m args below meth c H locs (mS M - S0) (mU M - U0) Q (F0 m pc ls st) := by
  obtain rfl : len = 1 := len1 hl rfl
  unfold stp at h
  dsimp only at h
  obtain ⟨rfl, rfl, rfl, rfl⟩ := nx_inj h
  exact lv_iconst C.1 C.2.1 hd rfl (kk H locs ls S)
theorem st_bipush {n : Int} (C : Cx G q p R s m args meth c) (S : Sd G q M H locs ls lv) (hq : q < 88) (hS0 : S0 ≤ mS M) (hU0 : U0 ≤ mU M) (hc : mS M' ≤ R.cells + S0) (hu : mU M' ≤ R.slots + U0) (hd : decode (mB q) pc = .ok ((.bipush n), len)) (hl : lenOK (.bipush n) len = true) (h : stp (.bipush n) q pc lv st M = some (pc', lv', st', M')) (kk : Kk G q p l e R s m args below meth c Q S0 U0 pc' lv' st' M') : W p l e R s m args below meth c H locs (mS M - S0) (mU M - U0) Q (F0 m pc ls st) := by
  obtain rfl : len = 2 := len1 hl rfl
  unfold stp at h
  dsimp only at h
  obtain ⟨rfl, rfl, rfl, rfl⟩ := nx_inj h
  exact lv_bipush C.1 C.2.1 hd rfl (kk H locs ls S)
theorem st_sipush {n : Int} (C : Cx G q p R s m args meth c) (S : Sd G q M H locs ls lv) (hq : q < 88) (hS0 : S0 ≤ mS M) (hU0 : U0 ≤ mU M) (hc : mS M' ≤ R.cells + S0) (hu : mU M' ≤ R.slots + U0) (hd : decode (mB q) pc = .ok ((.sipush n), len)) (hl : lenOK (.sipush n) len = true) (h : stp (.sipush n) q pc lv st M = some (pc', lv', st', M')) (kk : Kk G q p l e R s m args below meth c Q S0 U0 pc' lv' st' M') : W p l e R s m args below meth c H locs (mS M - S0) (mU M - U0) Q (F0 m pc ls st) := by
  obtain rfl : len = 3 := len1 hl rfl
  unfold stp at h
  dsimp only at h
  obtain ⟨rfl, rfl, rfl, rfl⟩ := nx_inj h
  exact lv_sipush C.1 C.2.1 hd rfl (kk H locs ls S)
theorem st_lconst {n : Fin 2} (C : Cx G q p R s m args meth c) (S : Sd G q M H locs ls lv) (hq : q < 88) (hS0 : S0 ≤ mS M) (hU0 : U0 ≤ mU M) (hc : mS M' ≤ R.cells + S0) (hu : mU M' ≤ R.slots + U0) (hd : decode (mB q) pc = .ok ((.lconst n), len)) (hl : lenOK (.lconst n) len = true) (h : stp (.lconst n) q pc lv st M = some (pc', lv', st', M')) (kk : Kk G q p l e R s m args below meth c Q S0 U0 pc' lv' st' M') : W p l e R s m args below meth c H locs (mS M - S0) (mU M - U0) Q (F0 m pc ls st) := by
  obtain rfl : len = 1 := len1 hl rfl
  unfold stp at h
  dsimp only at h
  obtain ⟨rfl, rfl, rfl, rfl⟩ := nx_inj h
  exact lv_lconst C.1 C.2.1 hd rfl (kk H locs ls S)
theorem st_ldc2_w {i : Nat} (C : Cx G q p R s m args meth c) (S : Sd G q M H locs ls lv) (hq : q < 88) (hS0 : S0 ≤ mS M) (hU0 : U0 ≤ mU M) (hc : mS M' ≤ R.cells + S0) (hu : mU M' ≤ R.slots + U0) (hd : decode (mB q) pc = .ok ((.ldc2_w i), len)) (hl : lenOK (.ldc2_w i) len = true) (h : stp (.ldc2_w i) q pc lv st M = some (pc', lv', st', M')) (kk : Kk G q p l e R s m args below meth c Q S0 U0 pc' lv' st' M') : W p l e R s m args below meth c H locs (mS M - S0) (mU M - U0) Q (F0 m pc ls st) := by
  obtain rfl : len = 3 := len1 hl rfl
  unfold stp at h
  dsimp only at h
  split at h
  · rename_i x hx
    obtain ⟨rfl, rfl, rfl, rfl⟩ := nx_inj h
    exact lv_ldc2 C.1 C.2.1 C.2.2.2.1 (C.2.2.2.2.1 _ (cst_spec hx)) hd (kk H locs ls S)
  · cases h
theorem st_iadd  (C : Cx G q p R s m args meth c) (S : Sd G q M H locs ls lv) (hq : q < 88) (hS0 : S0 ≤ mS M) (hU0 : U0 ≤ mU M) (hc : mS M' ≤ R.cells + S0) (hu : mU M' ≤ R.slots + U0) (hd : decode (mB q) pc = .ok ((.iadd), len)) (hl : lenOK (.iadd) len = true) (h : stp (.iadd) q pc lv st M = some (pc', lv', st', M')) (kk : Kk G q p l e R s m args below meth c Q S0 U0 pc' lv' st' M') : W p l e R s m args below meth c H locs (mS M - S0) (mU M - U0) Q (F0 m pc ls st) := by
  obtain rfl : len = 1 := len1 hl rfl
  unfold stp at h
  dsimp only at h
  split at h
  · obtain ⟨rfl, rfl, rfl, rfl⟩ := nx_inj h
    exact lv_iadd C.1 C.2.1 hd (kk H locs ls S)
  · cases h
theorem st_isub  (C : Cx G q p R s m args meth c) (S : Sd G q M H locs ls lv) (hq : q < 88) (hS0 : S0 ≤ mS M) (hU0 : U0 ≤ mU M) (hc : mS M' ≤ R.cells + S0) (hu : mU M' ≤ R.slots + U0) (hd : decode (mB q) pc = .ok ((.isub), len)) (hl : lenOK (.isub) len = true) (h : stp (.isub) q pc lv st M = some (pc', lv', st', M')) (kk : Kk G q p l e R s m args below meth c Q S0 U0 pc' lv' st' M') : W p l e R s m args below meth c H locs (mS M - S0) (mU M - U0) Q (F0 m pc ls st) := by
  obtain rfl : len = 1 := len1 hl rfl
  unfold stp at h
  dsimp only at h
  split at h
  · obtain ⟨rfl, rfl, rfl, rfl⟩ := nx_inj h
    exact lv_isub C.1 C.2.1 hd (kk H locs ls S)
  · cases h
theorem st_imul  (C : Cx G q p R s m args meth c) (S : Sd G q M H locs ls lv) (hq : q < 88) (hS0 : S0 ≤ mS M) (hU0 : U0 ≤ mU M) (hc : mS M' ≤ R.cells + S0) (hu : mU M' ≤ R.slots + U0) (hd : decode (mB q) pc = .ok ((.imul), len)) (hl : lenOK (.imul) len = true) (h : stp (.imul) q pc lv st M = some (pc', lv', st', M')) (kk : Kk G q p l e R s m args below meth c Q S0 U0 pc' lv' st' M') : W p l e R s m args below meth c H locs (mS M - S0) (mU M - U0) Q (F0 m pc ls st) := by
  obtain rfl : len = 1 := len1 hl rfl
  unfold stp at h
  dsimp only at h
  split at h
  · obtain ⟨rfl, rfl, rfl, rfl⟩ := nx_inj h
    exact lv_imul C.1 C.2.1 hd (kk H locs ls S)
  · cases h
theorem st_ixor  (C : Cx G q p R s m args meth c) (S : Sd G q M H locs ls lv) (hq : q < 88) (hS0 : S0 ≤ mS M) (hU0 : U0 ≤ mU M) (hc : mS M' ≤ R.cells + S0) (hu : mU M' ≤ R.slots + U0) (hd : decode (mB q) pc = .ok ((.ixor), len)) (hl : lenOK (.ixor) len = true) (h : stp (.ixor) q pc lv st M = some (pc', lv', st', M')) (kk : Kk G q p l e R s m args below meth c Q S0 U0 pc' lv' st' M') : W p l e R s m args below meth c H locs (mS M - S0) (mU M - U0) Q (F0 m pc ls st) := by
  obtain rfl : len = 1 := len1 hl rfl
  unfold stp at h
  dsimp only at h
  split at h
  · obtain ⟨rfl, rfl, rfl, rfl⟩ := nx_inj h
    exact lv_ixor C.1 C.2.1 hd (kk H locs ls S)
  · cases h
theorem st_ishr  (C : Cx G q p R s m args meth c) (S : Sd G q M H locs ls lv) (hq : q < 88) (hS0 : S0 ≤ mS M) (hU0 : U0 ≤ mU M) (hc : mS M' ≤ R.cells + S0) (hu : mU M' ≤ R.slots + U0) (hd : decode (mB q) pc = .ok ((.ishr), len)) (hl : lenOK (.ishr) len = true) (h : stp (.ishr) q pc lv st M = some (pc', lv', st', M')) (kk : Kk G q p l e R s m args below meth c Q S0 U0 pc' lv' st' M') : W p l e R s m args below meth c H locs (mS M - S0) (mU M - U0) Q (F0 m pc ls st) := by
  obtain rfl : len = 1 := len1 hl rfl
  unfold stp at h
  dsimp only at h
  split at h
  · obtain ⟨rfl, rfl, rfl, rfl⟩ := nx_inj h
    exact lv_ishr C.1 C.2.1 hd (kk H locs ls S)
  · cases h
theorem st_irem  (C : Cx G q p R s m args meth c) (S : Sd G q M H locs ls lv) (hq : q < 88) (hS0 : S0 ≤ mS M) (hU0 : U0 ≤ mU M) (hc : mS M' ≤ R.cells + S0) (hu : mU M' ≤ R.slots + U0) (hd : decode (mB q) pc = .ok ((.irem), len)) (hl : lenOK (.irem) len = true) (h : stp (.irem) q pc lv st M = some (pc', lv', st', M')) (kk : Kk G q p l e R s m args below meth c Q S0 U0 pc' lv' st' M') : W p l e R s m args below meth c H locs (mS M - S0) (mU M - U0) Q (F0 m pc ls st) := by
  obtain rfl : len = 1 := len1 hl rfl
  unfold stp at h
  dsimp only at h
  split at h
  · split at h
    · cases h
    · rename_i hn
      obtain ⟨rfl, rfl, rfl, rfl⟩ := nx_inj h
      exact lv_irem C.1 C.2.1 hd hn (kk H locs ls S)
  · cases h
theorem st_ldc {i : Nat} (C : Cx G q p R s m args meth c) (S : Sd G q M H locs ls lv) (hq : q < 88) (hS0 : S0 ≤ mS M) (hU0 : U0 ≤ mU M) (hc : mS M' ≤ R.cells + S0) (hu : mU M' ≤ R.slots + U0) (hd : decode (mB q) pc = .ok ((.ldc i), len)) (hl : lenOK (.ldc i) len = true) (h : stp (.ldc i) q pc lv st M = some (pc', lv', st', M')) (kk : Kk G q p l e R s m args below meth c Q S0 U0 pc' lv' st' M') : W p l e R s m args below meth c H locs (mS M - S0) (mU M - U0) Q (F0 m pc ls st) := by
  obtain rfl : len = 2 := len1 hl rfl
  unfold stp at h
  dsimp only at h
  split at h
  · rename_i x hx
    obtain ⟨rfl, rfl, rfl, rfl⟩ := nx_inj h
    exact lv_ldc C.1 C.2.1 C.2.2.2.1 (C.2.2.2.2.1 _ (cni_spec hx)) hd (kk H locs ls S)
  · cases h
theorem st_iand  (C : Cx G q p R s m args meth c) (S : Sd G q M H locs ls lv) (hq : q < 88) (hS0 : S0 ≤ mS M) (hU0 : U0 ≤ mU M) (hc : mS M' ≤ R.cells + S0) (hu : mU M' ≤ R.slots + U0) (hd : decode (mB q) pc = .ok ((.iand), len)) (hl : lenOK (.iand) len = true) (h : stp (.iand) q pc lv st M = some (pc', lv', st', M')) (kk : Kk G q p l e R s m args below meth c Q S0 U0 pc' lv' st' M') : W p l e R s m args below meth c H locs (mS M - S0) (mU M - U0) Q (F0 m pc ls st) := by
  obtain rfl : len = 1 := len1 hl rfl
  unfold stp at h
  dsimp only at h
  split at h
  · obtain ⟨rfl, rfl, rfl, rfl⟩ := nx_inj h
    exact lv_iand C.1 C.2.1 hd (kk H locs ls S)
  · cases h
theorem st_ior  (C : Cx G q p R s m args meth c) (S : Sd G q M H locs ls lv) (hq : q < 88) (hS0 : S0 ≤ mS M) (hU0 : U0 ≤ mU M) (hc : mS M' ≤ R.cells + S0) (hu : mU M' ≤ R.slots + U0) (hd : decode (mB q) pc = .ok ((.ior), len)) (hl : lenOK (.ior) len = true) (h : stp (.ior) q pc lv st M = some (pc', lv', st', M')) (kk : Kk G q p l e R s m args below meth c Q S0 U0 pc' lv' st' M') : W p l e R s m args below meth c H locs (mS M - S0) (mU M - U0) Q (F0 m pc ls st) := by
  obtain rfl : len = 1 := len1 hl rfl
  unfold stp at h
  dsimp only at h
  split at h
  · obtain ⟨rfl, rfl, rfl, rfl⟩ := nx_inj h
    exact lv_ior C.1 C.2.1 hd (kk H locs ls S)
  · cases h
theorem st_ishl  (C : Cx G q p R s m args meth c) (S : Sd G q M H locs ls lv) (hq : q < 88) (hS0 : S0 ≤ mS M) (hU0 : U0 ≤ mU M) (hc : mS M' ≤ R.cells + S0) (hu : mU M' ≤ R.slots + U0) (hd : decode (mB q) pc = .ok ((.ishl), len)) (hl : lenOK (.ishl) len = true) (h : stp (.ishl) q pc lv st M = some (pc', lv', st', M')) (kk : Kk G q p l e R s m args below meth c Q S0 U0 pc' lv' st' M') : W p l e R s m args below meth c H locs (mS M - S0) (mU M - U0) Q (F0 m pc ls st) := by
  obtain rfl : len = 1 := len1 hl rfl
  unfold stp at h
  dsimp only at h
  split at h
  · obtain ⟨rfl, rfl, rfl, rfl⟩ := nx_inj h
    exact lv_ishl C.1 C.2.1 hd (kk H locs ls S)
  · cases h
theorem st_ladd  (C : Cx G q p R s m args meth c) (S : Sd G q M H locs ls lv) (hq : q < 88) (hS0 : S0 ≤ mS M) (hU0 : U0 ≤ mU M) (hc : mS M' ≤ R.cells + S0) (hu : mU M' ≤ R.slots + U0) (hd : decode (mB q) pc = .ok ((.ladd), len)) (hl : lenOK (.ladd) len = true) (h : stp (.ladd) q pc lv st M = some (pc', lv', st', M')) (kk : Kk G q p l e R s m args below meth c Q S0 U0 pc' lv' st' M') : W p l e R s m args below meth c H locs (mS M - S0) (mU M - U0) Q (F0 m pc ls st) := by
  obtain rfl : len = 1 := len1 hl rfl
  unfold stp at h
  dsimp only at h
  split at h
  · obtain ⟨rfl, rfl, rfl, rfl⟩ := nx_inj h
    exact lv_ladd C.1 C.2.1 hd (kk H locs ls S)
  · cases h
theorem st_lsub  (C : Cx G q p R s m args meth c) (S : Sd G q M H locs ls lv) (hq : q < 88) (hS0 : S0 ≤ mS M) (hU0 : U0 ≤ mU M) (hc : mS M' ≤ R.cells + S0) (hu : mU M' ≤ R.slots + U0) (hd : decode (mB q) pc = .ok ((.lsub), len)) (hl : lenOK (.lsub) len = true) (h : stp (.lsub) q pc lv st M = some (pc', lv', st', M')) (kk : Kk G q p l e R s m args below meth c Q S0 U0 pc' lv' st' M') : W p l e R s m args below meth c H locs (mS M - S0) (mU M - U0) Q (F0 m pc ls st) := by
  obtain rfl : len = 1 := len1 hl rfl
  unfold stp at h
  dsimp only at h
  split at h
  · obtain ⟨rfl, rfl, rfl, rfl⟩ := nx_inj h
    exact lv_lsub C.1 C.2.1 hd (kk H locs ls S)
  · cases h
theorem st_land  (C : Cx G q p R s m args meth c) (S : Sd G q M H locs ls lv) (hq : q < 88) (hS0 : S0 ≤ mS M) (hU0 : U0 ≤ mU M) (hc : mS M' ≤ R.cells + S0) (hu : mU M' ≤ R.slots + U0) (hd : decode (mB q) pc = .ok ((.land), len)) (hl : lenOK (.land) len = true) (h : stp (.land) q pc lv st M = some (pc', lv', st', M')) (kk : Kk G q p l e R s m args below meth c Q S0 U0 pc' lv' st' M') : W p l e R s m args below meth c H locs (mS M - S0) (mU M - U0) Q (F0 m pc ls st) := by
  obtain rfl : len = 1 := len1 hl rfl
  unfold stp at h
  dsimp only at h
  split at h
  · obtain ⟨rfl, rfl, rfl, rfl⟩ := nx_inj h
    exact lv_land C.1 C.2.1 hd (kk H locs ls S)
  · cases h
theorem st_lor  (C : Cx G q p R s m args meth c) (S : Sd G q M H locs ls lv) (hq : q < 88) (hS0 : S0 ≤ mS M) (hU0 : U0 ≤ mU M) (hc : mS M' ≤ R.cells + S0) (hu : mU M' ≤ R.slots + U0) (hd : decode (mB q) pc = .ok ((.lor), len)) (hl : lenOK (.lor) len = true) (h : stp (.lor) q pc lv st M = some (pc', lv', st', M')) (kk : Kk G q p l e R s m args below meth c Q S0 U0 pc' lv' st' M') : W p l e R s m args below meth c H locs (mS M - S0) (mU M - U0) Q (F0 m pc ls st) := by
  obtain rfl : len = 1 := len1 hl rfl
  unfold stp at h
  dsimp only at h
  split at h
  · obtain ⟨rfl, rfl, rfl, rfl⟩ := nx_inj h
    exact lv_lor C.1 C.2.1 hd (kk H locs ls S)
  · cases h
theorem st_lxor  (C : Cx G q p R s m args meth c) (S : Sd G q M H locs ls lv) (hq : q < 88) (hS0 : S0 ≤ mS M) (hU0 : U0 ≤ mU M) (hc : mS M' ≤ R.cells + S0) (hu : mU M' ≤ R.slots + U0) (hd : decode (mB q) pc = .ok ((.lxor), len)) (hl : lenOK (.lxor) len = true) (h : stp (.lxor) q pc lv st M = some (pc', lv', st', M')) (kk : Kk G q p l e R s m args below meth c Q S0 U0 pc' lv' st' M') : W p l e R s m args below meth c H locs (mS M - S0) (mU M - U0) Q (F0 m pc ls st) := by
  obtain rfl : len = 1 := len1 hl rfl
  unfold stp at h
  dsimp only at h
  split at h
  · obtain ⟨rfl, rfl, rfl, rfl⟩ := nx_inj h
    exact lv_lxor C.1 C.2.1 hd (kk H locs ls S)
  · cases h
theorem st_lshl  (C : Cx G q p R s m args meth c) (S : Sd G q M H locs ls lv) (hq : q < 88) (hS0 : S0 ≤ mS M) (hU0 : U0 ≤ mU M) (hc : mS M' ≤ R.cells + S0) (hu : mU M' ≤ R.slots + U0) (hd : decode (mB q) pc = .ok ((.lshl), len)) (hl : lenOK (.lshl) len = true) (h : stp (.lshl) q pc lv st M = some (pc', lv', st', M')) (kk : Kk G q p l e R s m args below meth c Q S0 U0 pc' lv' st' M') : W p l e R s m args below meth c H locs (mS M - S0) (mU M - U0) Q (F0 m pc ls st) := by
  obtain rfl : len = 1 := len1 hl rfl
  unfold stp at h
  dsimp only at h
  split at h
  · obtain ⟨rfl, rfl, rfl, rfl⟩ := nx_inj h
    exact lv_lshl C.1 C.2.1 hd rfl (kk H locs ls S)
  · cases h
theorem st_lshr  (C : Cx G q p R s m args meth c) (S : Sd G q M H locs ls lv) (hq : q < 88) (hS0 : S0 ≤ mS M) (hU0 : U0 ≤ mU M) (hc : mS M' ≤ R.cells + S0) (hu : mU M' ≤ R.slots + U0) (hd : decode (mB q) pc = .ok ((.lshr), len)) (hl : lenOK (.lshr) len = true) (h : stp (.lshr) q pc lv st M = some (pc', lv', st', M')) (kk : Kk G q p l e R s m args below meth c Q S0 U0 pc' lv' st' M') : W p l e R s m args below meth c H locs (mS M - S0) (mU M - U0) Q (F0 m pc ls st) := by
  obtain rfl : len = 1 := len1 hl rfl
  unfold stp at h
  dsimp only at h
  split at h
  · obtain ⟨rfl, rfl, rfl, rfl⟩ := nx_inj h
    exact lv_lshr C.1 C.2.1 hd rfl (kk H locs ls S)
  · cases h
theorem st_lushr  (C : Cx G q p R s m args meth c) (S : Sd G q M H locs ls lv) (hq : q < 88) (hS0 : S0 ≤ mS M) (hU0 : U0 ≤ mU M) (hc : mS M' ≤ R.cells + S0) (hu : mU M' ≤ R.slots + U0) (hd : decode (mB q) pc = .ok ((.lushr), len)) (hl : lenOK (.lushr) len = true) (h : stp (.lushr) q pc lv st M = some (pc', lv', st', M')) (kk : Kk G q p l e R s m args below meth c Q S0 U0 pc' lv' st' M') : W p l e R s m args below meth c H locs (mS M - S0) (mU M - U0) Q (F0 m pc ls st) := by
  obtain rfl : len = 1 := len1 hl rfl
  unfold stp at h
  dsimp only at h
  split at h
  · obtain ⟨rfl, rfl, rfl, rfl⟩ := nx_inj h
    exact lv_lushr C.1 C.2.1 hd rfl (kk H locs ls S)
  · cases h
theorem st_i2l  (C : Cx G q p R s m args meth c) (S : Sd G q M H locs ls lv) (hq : q < 88) (hS0 : S0 ≤ mS M) (hU0 : U0 ≤ mU M) (hc : mS M' ≤ R.cells + S0) (hu : mU M' ≤ R.slots + U0) (hd : decode (mB q) pc = .ok ((.i2l), len)) (hl : lenOK (.i2l) len = true) (h : stp (.i2l) q pc lv st M = some (pc', lv', st', M')) (kk : Kk G q p l e R s m args below meth c Q S0 U0 pc' lv' st' M') : W p l e R s m args below meth c H locs (mS M - S0) (mU M - U0) Q (F0 m pc ls st) := by
  obtain rfl : len = 1 := len1 hl rfl
  unfold stp at h
  dsimp only at h
  split at h
  · obtain ⟨rfl, rfl, rfl, rfl⟩ := nx_inj h
    exact lv_i2l C.1 C.2.1 hd rfl (kk H locs ls S)
  · cases h
theorem st_l2i  (C : Cx G q p R s m args meth c) (S : Sd G q M H locs ls lv) (hq : q < 88) (hS0 : S0 ≤ mS M) (hU0 : U0 ≤ mU M) (hc : mS M' ≤ R.cells + S0) (hu : mU M' ≤ R.slots + U0) (hd : decode (mB q) pc = .ok ((.l2i), len)) (hl : lenOK (.l2i) len = true) (h : stp (.l2i) q pc lv st M = some (pc', lv', st', M')) (kk : Kk G q p l e R s m args below meth c Q S0 U0 pc' lv' st' M') : W p l e R s m args below meth c H locs (mS M - S0) (mU M - U0) Q (F0 m pc ls st) := by
  obtain rfl : len = 1 := len1 hl rfl
  unfold stp at h
  dsimp only at h
  split at h
  · obtain ⟨rfl, rfl, rfl, rfl⟩ := nx_inj h
    exact lv_l2i C.1 C.2.1 hd rfl (kk H locs ls S)
  · cases h
theorem st_lcmp  (C : Cx G q p R s m args meth c) (S : Sd G q M H locs ls lv) (hq : q < 88) (hS0 : S0 ≤ mS M) (hU0 : U0 ≤ mU M) (hc : mS M' ≤ R.cells + S0) (hu : mU M' ≤ R.slots + U0) (hd : decode (mB q) pc = .ok ((.lcmp), len)) (hl : lenOK (.lcmp) len = true) (h : stp (.lcmp) q pc lv st M = some (pc', lv', st', M')) (kk : Kk G q p l e R s m args below meth c Q S0 U0 pc' lv' st' M') : W p l e R s m args below meth c H locs (mS M - S0) (mU M - U0) Q (F0 m pc ls st) := by
  obtain rfl : len = 1 := len1 hl rfl
  unfold stp at h
  dsimp only at h
  split at h
  · obtain ⟨rfl, rfl, rfl, rfl⟩ := nx_inj h
    exact W.lcmp C.1 C.2.1 hd (kk H locs ls S)
  · cases h
theorem st_idiv  (C : Cx G q p R s m args meth c) (S : Sd G q M H locs ls lv) (hq : q < 88) (hS0 : S0 ≤ mS M) (hU0 : U0 ≤ mU M) (hc : mS M' ≤ R.cells + S0) (hu : mU M' ≤ R.slots + U0) (hd : decode (mB q) pc = .ok ((.idiv), len)) (hl : lenOK (.idiv) len = true) (h : stp (.idiv) q pc lv st M = some (pc', lv', st', M')) (kk : Kk G q p l e R s m args below meth c Q S0 U0 pc' lv' st' M') : W p l e R s m args below meth c H locs (mS M - S0) (mU M - U0) Q (F0 m pc ls st) := by
  obtain rfl : len = 1 := len1 hl rfl
  unfold stp at h
  dsimp only at h
  split at h
  · split at h
    · cases h
    · rename_i hn
      obtain ⟨rfl, rfl, rfl, rfl⟩ := nx_inj h
      exact lv_idiv C.1 C.2.1 hd hn (kk H locs ls S)
  · cases h
theorem st_dup  (C : Cx G q p R s m args meth c) (S : Sd G q M H locs ls lv) (hq : q < 88) (hS0 : S0 ≤ mS M) (hU0 : U0 ≤ mU M) (hc : mS M' ≤ R.cells + S0) (hu : mU M' ≤ R.slots + U0) (hd : decode (mB q) pc = .ok ((.dup), len)) (hl : lenOK (.dup) len = true) (h : stp (.dup) q pc lv st M = some (pc', lv', st', M')) (kk : Kk G q p l e R s m args below meth c Q S0 U0 pc' lv' st' M') : W p l e R s m args below meth c H locs (mS M - S0) (mU M - U0) Q (F0 m pc ls st) := by
  obtain rfl : len = 1 := len1 hl rfl
  unfold stp at h
  dsimp only at h
  split at h
  · split at h
    · rename_i hn
      obtain ⟨rfl, rfl, rfl, rfl⟩ := nx_inj h
      exact lv_dup C.1 C.2.1 hd hn (kk H locs ls S)
    · cases h
  · cases h
theorem st_pop  (C : Cx G q p R s m args meth c) (S : Sd G q M H locs ls lv) (hq : q < 88) (hS0 : S0 ≤ mS M) (hU0 : U0 ≤ mU M) (hc : mS M' ≤ R.cells + S0) (hu : mU M' ≤ R.slots + U0) (hd : decode (mB q) pc = .ok ((.pop), len)) (hl : lenOK (.pop) len = true) (h : stp (.pop) q pc lv st M = some (pc', lv', st', M')) (kk : Kk G q p l e R s m args below meth c Q S0 U0 pc' lv' st' M') : W p l e R s m args below meth c H locs (mS M - S0) (mU M - U0) Q (F0 m pc ls st) := by
  obtain rfl : len = 1 := len1 hl rfl
  unfold stp at h
  dsimp only at h
  split at h
  · split at h
    · rename_i hn
      obtain ⟨rfl, rfl, rfl, rfl⟩ := nx_inj h
      exact lv_pop C.1 C.2.1 hd hn (kk H locs ls S)
    · cases h
  · cases h
theorem st_dup2  (C : Cx G q p R s m args meth c) (S : Sd G q M H locs ls lv) (hq : q < 88) (hS0 : S0 ≤ mS M) (hU0 : U0 ≤ mU M) (hc : mS M' ≤ R.cells + S0) (hu : mU M' ≤ R.slots + U0) (hd : decode (mB q) pc = .ok ((.dup2), len)) (hl : lenOK (.dup2) len = true) (h : stp (.dup2) q pc lv st M = some (pc', lv', st', M')) (kk : Kk G q p l e R s m args below meth c Q S0 U0 pc' lv' st' M') : W p l e R s m args below meth c H locs (mS M - S0) (mU M - U0) Q (F0 m pc ls st) := by
  obtain rfl : len = 1 := len1 hl rfl
  unfold stp at h
  dsimp only at h
  split at h
  · split at h
    · rename_i hn
      obtain ⟨rfl, rfl, rfl, rfl⟩ := nx_inj h
      exact lv_dup2_11 C.1 C.2.1 hd hn.1 hn.2 (kk H locs ls S)
    · cases h
  · cases h
theorem st_goto {j : Int} (C : Cx G q p R s m args meth c) (S : Sd G q M H locs ls lv) (hq : q < 88) (hS0 : S0 ≤ mS M) (hU0 : U0 ≤ mU M) (hc : mS M' ≤ R.cells + S0) (hu : mU M' ≤ R.slots + U0) (hd : decode (mB q) pc = .ok ((.goto j), len)) (hl : lenOK (.goto j) len = true) (h : stp (.goto j) q pc lv st M = some (pc', lv', st', M')) (kk : Kk G q p l e R s m args below meth c Q S0 U0 pc' lv' st' M') : W p l e R s m args below meth c H locs (mS M - S0) (mU M - U0) Q (F0 m pc ls st) := by
  obtain rfl : len = 3 := len1 hl rfl
  unfold stp at h
  dsimp only at h
  obtain ⟨h1, rfl, rfl, rfl⟩ := nxj_inj h
  exact lv_goto C.1 C.2.1 hd h1 (kk H locs ls S)
theorem st_ifCond_eq {j : Int} (C : Cx G q p R s m args meth c) (S : Sd G q M H locs ls lv) (hq : q < 88) (hS0 : S0 ≤ mS M) (hU0 : U0 ≤ mU M) (hc : mS M' ≤ R.cells + S0) (hu : mU M' ≤ R.slots + U0) (hd : decode (mB q) pc = .ok ((.ifCond .eq j), len)) (hl : lenOK (.ifCond .eq j) len = true) (h : stp (.ifCond .eq j) q pc lv st M = some (pc', lv', st', M')) (kk : Kk G q p l e R s m args below meth c Q S0 U0 pc' lv' st' M') : W p l e R s m args below meth c H locs (mS M - S0) (mU M - U0) Q (F0 m pc ls st) := by
  obtain rfl : len = 3 := len1 hl rfl
  unfold stp at h
  dsimp only at h
  split at h
  · split at h
    · rename_i h0
      have h0' := (Int.toNat_of_nonneg h0).symm
      split at h
      · rename_i hx
        obtain ⟨rfl, rfl, rfl, rfl⟩ := nx_inj h
        exact lv_if_eq C.1 C.2.1 hd h0' (fun _ => kk H locs ls S) (fun z => absurd hx z)
      · rename_i hx
        obtain ⟨rfl, rfl, rfl, rfl⟩ := nx_inj h
        exact lv_if_eq C.1 C.2.1 hd h0' (fun z => absurd z hx) (fun _ => kk H locs ls S)
    · cases h
  · cases h
theorem st_ifCond_ne {j : Int} (C : Cx G q p R s m args meth c) (S : Sd G q M H locs ls lv) (hq : q < 88) (hS0 : S0 ≤ mS M) (hU0 : U0 ≤ mU M) (hc : mS M' ≤ R.cells + S0) (hu : mU M' ≤ R.slots + U0) (hd : decode (mB q) pc = .ok ((.ifCond .ne j), len)) (hl : lenOK (.ifCond .ne j) len = true) (h : stp (.ifCond .ne j) q pc lv st M = some (pc', lv', st', M')) (kk : Kk G q p l e R s m args below meth c Q S0 U0 pc' lv' st' M') : W p l e R s m args below meth c H locs (mS M - S0) (mU M - U0) Q (F0 m pc ls st) := by
  obtain rfl : len = 3 := len1 hl rfl
  unfold stp at h
  dsimp only at h
  split at h
  · split at h
    · rename_i h0
      have h0' := (Int.toNat_of_nonneg h0).symm
      split at h
      · rename_i hx
        obtain ⟨rfl, rfl, rfl, rfl⟩ := nx_inj h
        exact lv_if_ne C.1 C.2.1 hd h0' (fun _ => kk H locs ls S) (fun z => absurd z hx)
      · rename_i hx
        obtain ⟨rfl, rfl, rfl, rfl⟩ := nx_inj h
        exact lv_if_ne C.1 C.2.1 hd h0' (fun z => absurd z hx) (fun _ => kk H locs ls S)
    · cases h
  · cases h
theorem st_ifCond_lt {j : Int} (C : Cx G q p R s m args meth c) (S : Sd G q M H locs ls lv) (hq : q < 88) (hS0 : S0 ≤ mS M) (hU0 : U0 ≤ mU M) (hc : mS M' ≤ R.cells + S0) (hu : mU M' ≤ R.slots + U0) (hd : decode (mB q) pc = .ok ((.ifCond .lt j), len)) (hl : lenOK (.ifCond .lt j) len = true) (h : stp (.ifCond .lt j) q pc lv st M = some (pc', lv', st', M')) (kk : Kk G q p l e R s m args below meth c Q S0 U0 pc' lv' st' M') : W p l e R s m args below meth c H locs (mS M - S0) (mU M - U0) Q (F0 m pc ls st) := by
  obtain rfl : len = 3 := len1 hl rfl
  unfold stp at h
  dsimp only at h
  split at h
  · split at h
    · rename_i h0
      have h0' := (Int.toNat_of_nonneg h0).symm
      split at h
      · rename_i hx
        obtain ⟨rfl, rfl, rfl, rfl⟩ := nx_inj h
        exact lv_if_lt C.1 C.2.1 hd h0' (fun _ => kk H locs ls S) (fun z => absurd hx z)
      · rename_i hx
        obtain ⟨rfl, rfl, rfl, rfl⟩ := nx_inj h
        exact lv_if_lt C.1 C.2.1 hd h0' (fun z => absurd z hx) (fun _ => kk H locs ls S)
    · cases h
  · cases h
theorem st_ifCond_ge {j : Int} (C : Cx G q p R s m args meth c) (S : Sd G q M H locs ls lv) (hq : q < 88) (hS0 : S0 ≤ mS M) (hU0 : U0 ≤ mU M) (hc : mS M' ≤ R.cells + S0) (hu : mU M' ≤ R.slots + U0) (hd : decode (mB q) pc = .ok ((.ifCond .ge j), len)) (hl : lenOK (.ifCond .ge j) len = true) (h : stp (.ifCond .ge j) q pc lv st M = some (pc', lv', st', M')) (kk : Kk G q p l e R s m args below meth c Q S0 U0 pc' lv' st' M') : W p l e R s m args below meth c H locs (mS M - S0) (mU M - U0) Q (F0 m pc ls st) := by
  obtain rfl : len = 3 := len1 hl rfl
  unfold stp at h
  dsimp only at h
  split at h
  · split at h
    · rename_i h0
      have h0' := (Int.toNat_of_nonneg h0).symm
      split at h
      · rename_i hx
        obtain ⟨rfl, rfl, rfl, rfl⟩ := nx_inj h
        exact lv_if_ge C.1 C.2.1 hd h0' (fun _ => kk H locs ls S) (fun z => absurd hx z)
      · rename_i hx
        obtain ⟨rfl, rfl, rfl, rfl⟩ := nx_inj h
        exact lv_if_ge C.1 C.2.1 hd h0' (fun z => absurd z hx) (fun _ => kk H locs ls S)
    · cases h
  · cases h
theorem st_ifCond_gt {j : Int} (C : Cx G q p R s m args meth c) (S : Sd G q M H locs ls lv) (hq : q < 88) (hS0 : S0 ≤ mS M) (hU0 : U0 ≤ mU M) (hc : mS M' ≤ R.cells + S0) (hu : mU M' ≤ R.slots + U0) (hd : decode (mB q) pc = .ok ((.ifCond .gt j), len)) (hl : lenOK (.ifCond .gt j) len = true) (h : stp (.ifCond .gt j) q pc lv st M = some (pc', lv', st', M')) (kk : Kk G q p l e R s m args below meth c Q S0 U0 pc' lv' st' M') : W p l e R s m args below meth c H locs (mS M - S0) (mU M - U0) Q (F0 m pc ls st) := by
  obtain rfl : len = 3 := len1 hl rfl
  unfold stp at h
  dsimp only at h
  split at h
  · split at h
    · rename_i h0
      have h0' := (Int.toNat_of_nonneg h0).symm
      split at h
      · rename_i hx
        obtain ⟨rfl, rfl, rfl, rfl⟩ := nx_inj h
        exact lv_if_gt C.1 C.2.1 hd h0' (fun _ => kk H locs ls S) (fun z => absurd hx z)
      · rename_i hx
        obtain ⟨rfl, rfl, rfl, rfl⟩ := nx_inj h
        exact lv_if_gt C.1 C.2.1 hd h0' (fun z => absurd z hx) (fun _ => kk H locs ls S)
    · cases h
  · cases h
theorem st_ifCond_le {j : Int} (C : Cx G q p R s m args meth c) (S : Sd G q M H locs ls lv) (hq : q < 88) (hS0 : S0 ≤ mS M) (hU0 : U0 ≤ mU M) (hc : mS M' ≤ R.cells + S0) (hu : mU M' ≤ R.slots + U0) (hd : decode (mB q) pc = .ok ((.ifCond .le j), len)) (hl : lenOK (.ifCond .le j) len = true) (h : stp (.ifCond .le j) q pc lv st M = some (pc', lv', st', M')) (kk : Kk G q p l e R s m args below meth c Q S0 U0 pc' lv' st' M') : W p l e R s m args below meth c H locs (mS M - S0) (mU M - U0) Q (F0 m pc ls st) := by
  obtain rfl : len = 3 := len1 hl rfl
  unfold stp at h
  dsimp only at h
  split at h
  · split at h
    · rename_i h0
      have h0' := (Int.toNat_of_nonneg h0).symm
      split at h
      · rename_i hx
        obtain ⟨rfl, rfl, rfl, rfl⟩ := nx_inj h
        exact lv_if_le C.1 C.2.1 hd h0' (fun _ => kk H locs ls S) (fun z => absurd hx z)
      · rename_i hx
        obtain ⟨rfl, rfl, rfl, rfl⟩ := nx_inj h
        exact lv_if_le C.1 C.2.1 hd h0' (fun z => absurd z hx) (fun _ => kk H locs ls S)
    · cases h
  · cases h
theorem st_if_icmp_eq {j : Int} (C : Cx G q p R s m args meth c) (S : Sd G q M H locs ls lv) (hq : q < 88) (hS0 : S0 ≤ mS M) (hU0 : U0 ≤ mU M) (hc : mS M' ≤ R.cells + S0) (hu : mU M' ≤ R.slots + U0) (hd : decode (mB q) pc = .ok ((.if_icmp .eq j), len)) (hl : lenOK (.if_icmp .eq j) len = true) (h : stp (.if_icmp .eq j) q pc lv st M = some (pc', lv', st', M')) (kk : Kk G q p l e R s m args below meth c Q S0 U0 pc' lv' st' M') : W p l e R s m args below meth c H locs (mS M - S0) (mU M - U0) Q (F0 m pc ls st) := by
  obtain rfl : len = 3 := len1 hl rfl
  unfold stp at h
  dsimp only at h
  split at h
  · split at h
    · rename_i h0
      have h0' := (Int.toNat_of_nonneg h0).symm
      split at h
      · rename_i hx
        obtain ⟨rfl, rfl, rfl, rfl⟩ := nx_inj h
        exact lv_icmp_eq C.1 C.2.1 hd h0' (fun _ => kk H locs ls S) (fun z => absurd hx z)
      · rename_i hx
        obtain ⟨rfl, rfl, rfl, rfl⟩ := nx_inj h
        exact lv_icmp_eq C.1 C.2.1 hd h0' (fun z => absurd z hx) (fun _ => kk H locs ls S)
    · cases h
  · cases h
theorem st_if_icmp_ne {j : Int} (C : Cx G q p R s m args meth c) (S : Sd G q M H locs ls lv) (hq : q < 88) (hS0 : S0 ≤ mS M) (hU0 : U0 ≤ mU M) (hc : mS M' ≤ R.cells + S0) (hu : mU M' ≤ R.slots + U0) (hd : decode (mB q) pc = .ok ((.if_icmp .ne j), len)) (hl : lenOK (.if_icmp .ne j) len = true) (h : stp (.if_icmp .ne j) q pc lv st M = some (pc', lv', st', M')) (kk : Kk G q p l e R s m args below meth c Q S0 U0 pc' lv' st' M') : W p l e R s m args below meth c H locs (mS M - S0) (mU M - U0) Q (F0 m pc ls st) := by
  obtain rfl : len = 3 := len1 hl rfl
  unfold stp at h
  dsimp only at h
  split at h
  · split at h
    · rename_i h0
      have h0' := (Int.toNat_of_nonneg h0).symm
      split at h
      · rename_i hx
        obtain ⟨rfl, rfl, rfl, rfl⟩ := nx_inj h
        exact lv_icmp_ne C.1 C.2.1 hd h0' (fun _ => kk H locs ls S) (fun z => absurd z hx)
      · rename_i hx
        obtain ⟨rfl, rfl, rfl, rfl⟩ := nx_inj h
        exact lv_icmp_ne C.1 C.2.1 hd h0' (fun z => absurd z hx) (fun _ => kk H locs ls S)
    · cases h
  · cases h
theorem st_if_icmp_lt {j : Int} (C : Cx G q p R s m args meth c) (S : Sd G q M H locs ls lv) (hq : q < 88) (hS0 : S0 ≤ mS M) (hU0 : U0 ≤ mU M) (hc : mS M' ≤ R.cells + S0) (hu : mU M' ≤ R.slots + U0) (hd : decode (mB q) pc = .ok ((.if_icmp .lt j), len)) (hl : lenOK (.if_icmp .lt j) len = true) (h : stp (.if_icmp .lt j) q pc lv st M = some (pc', lv', st', M')) (kk : Kk G q p l e R s m args below meth c Q S0 U0 pc' lv' st' M') : W p l e R s m args below meth c H locs (mS M - S0) (mU M - U0) Q (F0 m pc ls st) := by
  obtain rfl : len = 3 := len1 hl rfl
  unfold stp at h
  dsimp only at h
  split at h
  · split at h
    · rename_i h0
      have h0' := (Int.toNat_of_nonneg h0).symm
      split at h
      · rename_i hx
        obtain ⟨rfl, rfl, rfl, rfl⟩ := nx_inj h
        exact lv_icmp_lt C.1 C.2.1 hd h0' (fun _ => kk H locs ls S) (fun z => absurd hx z)
      · rename_i hx
        obtain ⟨rfl, rfl, rfl, rfl⟩ := nx_inj h
        exact lv_icmp_lt C.1 C.2.1 hd h0' (fun z => absurd z hx) (fun _ => kk H locs ls S)
    · cases h
  · cases h
theorem st_if_icmp_ge {j : Int} (C : Cx G q p R s m args meth c) (S : Sd G q M H locs ls lv) (hq : q < 88) (hS0 : S0 ≤ mS M) (hU0 : U0 ≤ mU M) (hc : mS M' ≤ R.cells + S0) (hu : mU M' ≤ R.slots + U0) (hd : decode (mB q) pc = .ok ((.if_icmp .ge j), len)) (hl : lenOK (.if_icmp .ge j) len = true) (h : stp (.if_icmp .ge j) q pc lv st M = some (pc', lv', st', M')) (kk : Kk G q p l e R s m args below meth c Q S0 U0 pc' lv' st' M') : W p l e R s m args below meth c H locs (mS M - S0) (mU M - U0) Q (F0 m pc ls st) := by
  obtain rfl : len = 3 := len1 hl rfl
  unfold stp at h
  dsimp only at h
  split at h
  · split at h
    · rename_i h0
      have h0' := (Int.toNat_of_nonneg h0).symm
      split at h
      · rename_i hx
        obtain ⟨rfl, rfl, rfl, rfl⟩ := nx_inj h
        exact lv_icmp_ge C.1 C.2.1 hd h0' (fun _ => kk H locs ls S) (fun z => absurd hx z)
      · rename_i hx
        obtain ⟨rfl, rfl, rfl, rfl⟩ := nx_inj h
        exact lv_icmp_ge C.1 C.2.1 hd h0' (fun z => absurd z hx) (fun _ => kk H locs ls S)
    · cases h
  · cases h
theorem st_if_icmp_gt {j : Int} (C : Cx G q p R s m args meth c) (S : Sd G q M H locs ls lv) (hq : q < 88) (hS0 : S0 ≤ mS M) (hU0 : U0 ≤ mU M) (hc : mS M' ≤ R.cells + S0) (hu : mU M' ≤ R.slots + U0) (hd : decode (mB q) pc = .ok ((.if_icmp .gt j), len)) (hl : lenOK (.if_icmp .gt j) len = true) (h : stp (.if_icmp .gt j) q pc lv st M = some (pc', lv', st', M')) (kk : Kk G q p l e R s m args below meth c Q S0 U0 pc' lv' st' M') : W p l e R s m args below meth c H locs (mS M - S0) (mU M - U0) Q (F0 m pc ls st) := by
  obtain rfl : len = 3 := len1 hl rfl
  unfold stp at h
  dsimp only at h
  split at h
  · split at h
    · rename_i h0
      have h0' := (Int.toNat_of_nonneg h0).symm
      split at h
      · rename_i hx
        obtain ⟨rfl, rfl, rfl, rfl⟩ := nx_inj h
        exact lv_icmp_gt C.1 C.2.1 hd h0' (fun _ => kk H locs ls S) (fun z => absurd hx z)
      · rename_i hx
        obtain ⟨rfl, rfl, rfl, rfl⟩ := nx_inj h
        exact lv_icmp_gt C.1 C.2.1 hd h0' (fun z => absurd z hx) (fun _ => kk H locs ls S)
    · cases h
  · cases h
theorem st_if_icmp_le {j : Int} (C : Cx G q p R s m args meth c) (S : Sd G q M H locs ls lv) (hq : q < 88) (hS0 : S0 ≤ mS M) (hU0 : U0 ≤ mU M) (hc : mS M' ≤ R.cells + S0) (hu : mU M' ≤ R.slots + U0) (hd : decode (mB q) pc = .ok ((.if_icmp .le j), len)) (hl : lenOK (.if_icmp .le j) len = true) (h : stp (.if_icmp .le j) q pc lv st M = some (pc', lv', st', M')) (kk : Kk G q p l e R s m args below meth c Q S0 U0 pc' lv' st' M') : W p l e R s m args below meth c H locs (mS M - S0) (mU M - U0) Q (F0 m pc ls st) := by
  obtain rfl : len = 3 := len1 hl rfl
  unfold stp at h
  dsimp only at h
  split at h
  · split at h
    · rename_i h0
      have h0' := (Int.toNat_of_nonneg h0).symm
      split at h
      · rename_i hx
        obtain ⟨rfl, rfl, rfl, rfl⟩ := nx_inj h
        exact lv_icmp_le C.1 C.2.1 hd h0' (fun _ => kk H locs ls S) (fun z => absurd hx z)
      · rename_i hx
        obtain ⟨rfl, rfl, rfl, rfl⟩ := nx_inj h
        exact lv_icmp_le C.1 C.2.1 hd h0' (fun z => absurd z hx) (fun _ => kk H locs ls S)
    · cases h
  · cases h
theorem st_tableswitch {d lo hi : Int} {offs : Array Int} (C : Cx G q p R s m args meth c) (S : Sd G q M H locs ls lv) (hq : q < 88) (hS0 : S0 ≤ mS M) (hU0 : U0 ≤ mU M) (hc : mS M' ≤ R.cells + S0) (hu : mU M' ≤ R.slots + U0) (hd : decode (mB q) pc = .ok ((.tableswitch d lo hi offs), len)) (hl : lenOK (.tableswitch d lo hi offs) len = true) (h : stp (.tableswitch d lo hi offs) q pc lv st M = some (pc', lv', st', M')) (kk : Kk G q p l e R s m args below meth c Q S0 U0 pc' lv' st' M') : W p l e R s m args below meth c H locs (mS M - S0) (mU M - U0) Q (F0 m pc ls st) := by
  unfold stp at h
  dsimp only at h
  split at h
  · split at h
    · rename_i hx
      obtain ⟨h1, rfl, rfl, rfl⟩ := nxj_inj h
      exact lv_tableOut C.1 C.2.1 hd hx h1 (kk H locs ls S)
    · rename_i hx
      split at h
      · rename_i hoff
        obtain ⟨h1, rfl, rfl, rfl⟩ := nxj_inj h
        exact lv_tableIn C.1 C.2.1 hd (fun z => hx (Or.inl z)) (fun z => hx (Or.inr z)) hoff h1 (kk H locs ls S)
      · cases h
  · cases h
theorem st_getfield {i : Nat} (C : Cx G q p R s m args meth c) (S : Sd G q M H locs ls lv) (hq : q < 88) (hS0 : S0 ≤ mS M) (hU0 : U0 ≤ mU M) (hc : mS M' ≤ R.cells + S0) (hu : mU M' ≤ R.slots + U0) (hd : decode (mB q) pc = .ok ((.getfield i), len)) (hl : lenOK (.getfield i) len = true) (h : stp (.getfield i) q pc lv st M = some (pc', lv', st', M')) (kk : Kk G q p l e R s m args below meth c Q S0 U0 pc' lv' st' M') : W p l e R s m args below meth c H locs (mS M - S0) (mU M - U0) Q (F0 m pc ls st) := by
  obtain rfl : len = 3 := len1 hl rfl
  unfold stp at h
  dsimp only at h
  split at h
  · rename_i hf
    split at h
    · rename_i hk
      obtain ⟨rfl, rfl, rfl, rfl⟩ := nx_inj h
      exact s_get C S hf hk hd (kk H locs ls S)
    · cases h
  · cases h
theorem st_putfield {i : Nat} (C : Cx G q p R s m args meth c) (S : Sd G q M H locs ls lv) (hq : q < 88) (hS0 : S0 ≤ mS M) (hU0 : U0 ≤ mU M) (hc : mS M' ≤ R.cells + S0) (hu : mU M' ≤ R.slots + U0) (hd : decode (mB q) pc = .ok ((.putfield i), len)) (hl : lenOK (.putfield i) len = true) (h : stp (.putfield i) q pc lv st M = some (pc', lv', st', M')) (kk : Kk G q p l e R s m args below meth c Q S0 U0 pc' lv' st' M') : W p l e R s m args below meth c H locs (mS M - S0) (mU M - U0) Q (F0 m pc ls st) := by
  obtain rfl : len = 3 := len1 hl rfl
  unfold stp at h
  dsimp only at h
  split at h
  · rename_i hf
    split at h
    · rename_i hk
      split at h
      · rename_i ht
        obtain ⟨rfl, rfl, rfl, rfl⟩ := nx_inj h
        obtain ⟨-, h2, h3⟩ := fld_spec hf
        exact s_put C S hq hf hk.1 hk.2 (put_i h3 h2 ht) hd (fun H1 j hB z o ob => kk H1 _ ls (S.heap (S.1.sI z o (wAt_obj h3 hk.1 hB (by rw [← fv_sI (ht.imp id And.left)]; exact ob))) hB))
      · cases h
    · cases h
  · rename_i hf
    split at h
    · rename_i hk
      split at h
      · rename_i ht
        obtain ⟨rfl, rfl, rfl, rfl⟩ := nx_inj h
        obtain ⟨-, h2, h3⟩ := fld_spec hf
        exact s_put C S hq hf hk.1 hk.2 (put_l h3 h2 ht) hd (fun H1 j hB z o ob => kk H1 _ ls (S.heap (S.1.sJ z o (wAt_obj h3 hk.1 hB (by rw [← fv_sJ ht]; exact ob))) hB))
      · cases h
    · cases h
  · rename_i hf
    split at h
    · rename_i hk
      split at h
      · rename_i ht
        obtain ⟨rfl, rfl, rfl, rfl⟩ := nx_inj h
        obtain ⟨-, h2, h3⟩ := fld_spec hf
        exact s_put C S hq hf hk.1 hk.2 (put_r h3 h2 ht) hd (fun H1 j hB z o ob => kk H1 _ ls (S.heap (S.1.sP z o (wAt_obj h3 hk.1 hB (by rw [← fv_sP ht]; exact ob))) hB))
      · cases h
    · cases h
  · cases h
theorem st_iaload  (C : Cx G q p R s m args meth c) (S : Sd G q M H locs ls lv) (hq : q < 88) (hS0 : S0 ≤ mS M) (hU0 : U0 ≤ mU M) (hc : mS M' ≤ R.cells + S0) (hu : mU M' ≤ R.slots + U0) (hd : decode (mB q) pc = .ok ((.iaload), len)) (hl : lenOK (.iaload) len = true) (h : stp (.iaload) q pc lv st M = some (pc', lv', st', M')) (kk : Kk G q p l e R s m args below meth c Q S0 U0 pc' lv' st' M') : W p l e R s m args below meth c H locs (mS M - S0) (mU M - U0) Q (F0 m pc ls st) := by
  obtain rfl : len = 1 := len1 hl rfl
  unfold stp at h
  dsimp only at h
  split at h
  · split at h
    · rename_i hk
      obtain ⟨rfl, rfl, rfl, rfl⟩ := nx_inj h
      exact s_iald C S hk.1 hk.2 hd (kk H locs ls S)
    · cases h
  · cases h
theorem st_laload  (C : Cx G q p R s m args meth c) (S : Sd G q M H locs ls lv) (hq : q < 88) (hS0 : S0 ≤ mS M) (hU0 : U0 ≤ mU M) (hc : mS M' ≤ R.cells + S0) (hu : mU M' ≤ R.slots + U0) (hd : decode (mB q) pc = .ok ((.laload), len)) (hl : lenOK (.laload) len = true) (h : stp (.laload) q pc lv st M = some (pc', lv', st', M')) (kk : Kk G q p l e R s m args below meth c Q S0 U0 pc' lv' st' M') : W p l e R s m args below meth c H locs (mS M - S0) (mU M - U0) Q (F0 m pc ls st) := by
  obtain rfl : len = 1 := len1 hl rfl
  unfold stp at h
  dsimp only at h
  split at h
  · split at h
    · rename_i hk
      obtain ⟨rfl, rfl, rfl, rfl⟩ := nx_inj h
      exact s_lald C S hk.1 hk.2 hd (kk H locs ls S)
    · cases h
  · cases h
theorem st_aaload  (C : Cx G q p R s m args meth c) (S : Sd G q M H locs ls lv) (hq : q < 88) (hS0 : S0 ≤ mS M) (hU0 : U0 ≤ mU M) (hc : mS M' ≤ R.cells + S0) (hu : mU M' ≤ R.slots + U0) (hd : decode (mB q) pc = .ok ((.aaload), len)) (hl : lenOK (.aaload) len = true) (h : stp (.aaload) q pc lv st M = some (pc', lv', st', M')) (kk : Kk G q p l e R s m args below meth c Q S0 U0 pc' lv' st' M') : W p l e R s m args below meth c H locs (mS M - S0) (mU M - U0) Q (F0 m pc ls st) := by
  obtain rfl : len = 1 := len1 hl rfl
  unfold stp at h
  dsimp only at h
  split at h
  · split at h
    · rename_i hk
      obtain ⟨rfl, rfl, rfl, rfl⟩ := nx_inj h
      exact s_aald C S hk.1 hk.2 hd (kk H locs ls S)
    · cases h
  · cases h
theorem st_iastore  (C : Cx G q p R s m args meth c) (S : Sd G q M H locs ls lv) (hq : q < 88) (hS0 : S0 ≤ mS M) (hU0 : U0 ≤ mU M) (hc : mS M' ≤ R.cells + S0) (hu : mU M' ≤ R.slots + U0) (hd : decode (mB q) pc = .ok ((.iastore), len)) (hl : lenOK (.iastore) len = true) (h : stp (.iastore) q pc lv st M = some (pc', lv', st', M')) (kk : Kk G q p l e R s m args below meth c Q S0 U0 pc' lv' st' M') : W p l e R s m args below meth c H locs (mS M - S0) (mU M - U0) Q (F0 m pc ls st) := by
  obtain rfl : len = 1 := len1 hl rfl
  unfold stp at h
  dsimp only at h
  split at h
  · split at h
    · rename_i hk
      obtain ⟨rfl, rfl, rfl, rfl⟩ := nx_inj h
      exact s_iast C S hk.1 hk.2 hd (fun H1 locs1 S1 => kk H1 locs1 ls S1)
    · cases h
  · cases h
theorem st_lastore  (C : Cx G q p R s m args meth c) (S : Sd G q M H locs ls lv) (hq : q < 88) (hS0 : S0 ≤ mS M) (hU0 : U0 ≤ mU M) (hc : mS M' ≤ R.cells + S0) (hu : mU M' ≤ R.slots + U0) (hd : decode (mB q) pc = .ok ((.lastore), len)) (hl : lenOK (.lastore) len = true) (h : stp (.lastore) q pc lv st M = some (pc', lv', st', M')) (kk : Kk G q p l e R s m args below meth c Q S0 U0 pc' lv' st' M') : W p l e R s m args below meth c H locs (mS M - S0) (mU M - U0) Q (F0 m pc ls st) := by
  obtain rfl : len = 1 := len1 hl rfl
  unfold stp at h
  dsimp only at h
  split at h
  · split at h
    · rename_i hk
      obtain ⟨rfl, rfl, rfl, rfl⟩ := nx_inj h
      exact s_last C S hk.1 hk.2 hd (fun H1 locs1 S1 => kk H1 locs1 ls S1)
    · cases h
  · cases h
theorem st_aastore  (C : Cx G q p R s m args meth c) (S : Sd G q M H locs ls lv) (hq : q < 88) (hS0 : S0 ≤ mS M) (hU0 : U0 ≤ mU M) (hc : mS M' ≤ R.cells + S0) (hu : mU M' ≤ R.slots + U0) (hd : decode (mB q) pc = .ok ((.aastore), len)) (hl : lenOK (.aastore) len = true) (h : stp (.aastore) q pc lv st M = some (pc', lv', st', M')) (kk : Kk G q p l e R s m args below meth c Q S0 U0 pc' lv' st' M') : W p l e R s m args below meth c H locs (mS M - S0) (mU M - U0) Q (F0 m pc ls st) := by
  obtain rfl : len = 1 := len1 hl rfl
  unfold stp at h
  dsimp only at h
  split at h
  · split at h
    · rename_i hk
      obtain ⟨rfl, rfl, rfl, rfl⟩ := nx_inj h
      obtain ⟨hk, hi⟩ := hk
      rcases hk with ⟨ha, hb⟩ | ⟨ha, hb⟩
      · exact s_aast C S (k := 3) (Or.inl rfl) ha hb hi hd (fun H1 locs1 S1 => kk H1 locs1 ls S1)
      · exact s_aast C S (k := 4) (Or.inr rfl) ha hb hi hd (fun H1 locs1 S1 => kk H1 locs1 ls S1)
    · cases h
  · cases h
theorem st_arraylength  (C : Cx G q p R s m args meth c) (S : Sd G q M H locs ls lv) (hq : q < 88) (hS0 : S0 ≤ mS M) (hU0 : U0 ≤ mU M) (hc : mS M' ≤ R.cells + S0) (hu : mU M' ≤ R.slots + U0) (hd : decode (mB q) pc = .ok ((.arraylength), len)) (hl : lenOK (.arraylength) len = true) (h : stp (.arraylength) q pc lv st M = some (pc', lv', st', M')) (kk : Kk G q p l e R s m args below meth c Q S0 U0 pc' lv' st' M') : W p l e R s m args below meth c H locs (mS M - S0) (mU M - U0) Q (F0 m pc ls st) := by
  obtain rfl : len = 1 := len1 hl rfl
  unfold stp at h
  dsimp only at h
  split at h
  · split at h
    · rename_i hk
      obtain ⟨rfl, rfl, rfl, rfl⟩ := nx_inj h
      exact s_alen C S hk hd (kk H locs ls S)
    · cases h
  · cases h
theorem st_new {i : Nat} (C : Cx G q p R s m args meth c) (S : Sd G q M H locs ls lv) (hq : q < 88) (hS0 : S0 ≤ mS M) (hU0 : U0 ≤ mU M) (hc : mS M' ≤ R.cells + S0) (hu : mU M' ≤ R.slots + U0) (hd : decode (mB q) pc = .ok ((.new i), len)) (hl : lenOK (.new i) len = true) (h : stp (.new i) q pc lv st M = some (pc', lv', st', M')) (kk : Kk G q p l e R s m args below meth c Q S0 U0 pc' lv' st' M') : W p l e R s m args below meth c H locs (mS M - S0) (mU M - U0) Q (F0 m pc ls st) := by
  obtain rfl : len = 3 := len1 hl rfl
  unfold stp at h
  dsimp only at h
  split at h
  · rename_i ci hf
    split at h
    · rename_i hci
      obtain ⟨rfl, rfl, rfl, rfl⟩ := nx_inj h
      have e1 : mS M - S0 + 1 = mS (nw M (10 + ci, 0) (NN ci)) - S0 := by show _ = mS M + 1 - S0; omega
      have e2 : mU M - U0 + (NN ci) = mU (nw M (10 + ci, 0) (NN ci)) - U0 := by show _ = mU M + (NN ci) - U0; omega
      have e3 : mS (nw M (10 + ci, 0) (NN ci)) = mS M + 1 := rfl
      have e4 : mU (nw M (10 + ci, 0) (NN ci)) = mU M + (NN ci) := rfl
      exact s_new C S hf hci (by omega) (by omega) hd (fun H1 S1 => by rw [e1, e2]; exact kk H1 locs ls S1)
    · cases h
  · cases h
theorem st_newarray {t : ArrayType} (C : Cx G q p R s m args meth c) (S : Sd G q M H locs ls lv) (hq : q < 88) (hS0 : S0 ≤ mS M) (hU0 : U0 ≤ mU M) (hc : mS M' ≤ R.cells + S0) (hu : mU M' ≤ R.slots + U0) (hd : decode (mB q) pc = .ok ((.newarray t), len)) (hl : lenOK (.newarray t) len = true) (h : stp (.newarray t) q pc lv st M = some (pc', lv', st', M')) (kk : Kk G q p l e R s m args below meth c Q S0 U0 pc' lv' st' M') : W p l e R s m args below meth c H locs (mS M - S0) (mU M - U0) Q (F0 m pc ls st) := by
  obtain rfl : len = 2 := len1 hl rfl
  unfold stp at h
  dsimp only at h
  split at h
  · split at h
    · rename_i n r hn
      obtain ⟨rfl, rfl, rfl, rfl⟩ := nx_inj h
      have e1 : mS M - S0 + 1 = mS (nw M (1, n.toNatClampNeg) n.toNatClampNeg) - S0 := by show _ = mS M + 1 - S0; omega
      have e2 : mU M - U0 + n.toNatClampNeg = mU (nw M (1, n.toNatClampNeg) n.toNatClampNeg) - U0 := by show _ = mU M + n.toNatClampNeg - U0; omega
      have e3 : mS (nw M (1, n.toNatClampNeg) n.toNatClampNeg) = mS M + 1 := rfl
      have e4 : mU (nw M (1, n.toNatClampNeg) n.toNatClampNeg) = mU M + n.toNatClampNeg := rfl
      exact s_newI C S hn.1 hn.2 (by omega) (by omega) hd (fun H1 S1 => by rw [e1, e2]; exact kk H1 locs ls S1)
    · cases h
  · split at h
    · rename_i n r hn
      obtain ⟨rfl, rfl, rfl, rfl⟩ := nx_inj h
      have e1 : mS M - S0 + 1 = mS (nw M (2, n.toNatClampNeg) n.toNatClampNeg) - S0 := by show _ = mS M + 1 - S0; omega
      have e2 : mU M - U0 + n.toNatClampNeg = mU (nw M (2, n.toNatClampNeg) n.toNatClampNeg) - U0 := by show _ = mU M + n.toNatClampNeg - U0; omega
      have e3 : mS (nw M (2, n.toNatClampNeg) n.toNatClampNeg) = mS M + 1 := rfl
      have e4 : mU (nw M (2, n.toNatClampNeg) n.toNatClampNeg) = mU M + n.toNatClampNeg := rfl
      exact s_newJ C S hn.1 hn.2 (by omega) (by omega) hd (fun H1 S1 => by rw [e1, e2]; exact kk H1 locs ls S1)
    · cases h
  · cases h
theorem st_anewarray {i : Nat} (C : Cx G q p R s m args meth c) (S : Sd G q M H locs ls lv) (hq : q < 88) (hS0 : S0 ≤ mS M) (hU0 : U0 ≤ mU M) (hc : mS M' ≤ R.cells + S0) (hu : mU M' ≤ R.slots + U0) (hd : decode (mB q) pc = .ok ((.anewarray i), len)) (hl : lenOK (.anewarray i) len = true) (h : stp (.anewarray i) q pc lv st M = some (pc', lv', st', M')) (kk : Kk G q p l e R s m args below meth c Q S0 U0 pc' lv' st' M') : W p l e R s m args below meth c H locs (mS M - S0) (mU M - U0) Q (F0 m pc ls st) := by
  obtain rfl : len = 3 := len1 hl rfl
  unfold stp at h
  dsimp only at h
  split at h
  · rename_i ci n r hf
    split at h
    · rename_i hn
      obtain ⟨rfl, rfl, rfl, rfl⟩ := nx_inj h
      obtain ⟨hn, hci⟩ := hn
      generalize hk : (if ci = aoC 3 then 3 else 4) = k at *
      have e1 : mS M - S0 + 1 = mS (nw M (k, n.toNatClampNeg) n.toNatClampNeg) - S0 := by show _ = mS M + 1 - S0; omega
      have e2 : mU M - U0 + n.toNatClampNeg = mU (nw M (k, n.toNatClampNeg) n.toNatClampNeg) - U0 := by show _ = mU M + n.toNatClampNeg - U0; omega
      have e3 : mS (nw M (k, n.toNatClampNeg) n.toNatClampNeg) = mS M + 1 := rfl
      have e4 : mU (nw M (k, n.toNatClampNeg) n.toNatClampNeg) = mU M + n.toNatClampNeg := rfl
      have hk2 : (k = 3 ∨ k = 4) ∧ ci = aoC k := by
        rcases hci with rfl | rfl
        · rw [if_pos rfl] at hk; subst hk; exact ⟨Or.inl rfl, rfl⟩
        · rw [if_neg (by decide)] at hk; subst hk; exact ⟨Or.inr rfl, rfl⟩
      exact s_newP C S hk2.1 (by rw [hf, hk2.2]) hn.1 hn.2 (by omega) (by omega) hd (fun H1 S1 => by rw [e1, e2]; exact kk H1 locs ls S1)
    · cases h
  · cases h
theorem st_invokespecial {i : Nat} (C : Cx G q p R s m args meth c) (S : Sd G q M H locs ls lv) (hq : q < 88) (hS0 : S0 ≤ mS M) (hU0 : U0 ≤ mU M) (hc : mS M' ≤ R.cells + S0) (hu : mU M' ≤ R.slots + U0) (hd : decode (mB q) pc = .ok ((.invokespecial i), len)) (hl : lenOK (.invokespecial i) len = true) (h : stp (.invokespecial i) q pc lv st M = some (pc', lv', st', M')) (kk : Kk G q p l e R s m args below meth c Q S0 U0 pc' lv' st' M') : W p l e R s m args below meth c H locs (mS M - S0) (mU M - U0) Q (F0 m pc ls st) := by
  obtain rfl : len = 3 := len1 hl rfl
  unfold stp at h
  dsimp only at h
  split at h
  · rename_i ho
    split at h
    · split at h
      · rename_i hk
        obtain ⟨rfl, rfl, rfl, rfl⟩ := nx_inj h
        have hw := objB
        rw [Bool.and_eq_true] at hw
        obtain ⟨hx, hb, hml, hown, hts, hK, hin, hfr, hlo⟩ := C
        refine W.objInit hx hb hown (hts _ (obj_spec ho)) (hts _ (hasW_in hw.1)) (hts _ (hasW_in hw.2)) rfl (by rw [hml]; exact S.2.2.1.1) rfl hd (by omega) (by
          show 2 * 0 + catS st' + 12 ≤ _
          omega) (kk H locs ls S)
      · cases h
    · cases h
  · cases h
theorem st_invokestatic {i : Nat} (C : Cx G q p R s m args meth c) (S : Sd G q M H locs ls lv) (hq : q < 88) (hS0 : S0 ≤ mS M) (hU0 : U0 ≤ mU M) (hc : mS M' ≤ R.cells + S0) (hu : mU M' ≤ R.slots + U0) (hd : decode (mB q) pc = .ok ((.invokestatic i), len)) (hl : lenOK (.invokestatic i) len = true) (h : stp (.invokestatic i) q pc lv st M = some (pc', lv', st', M')) (kk : Kk G q p l e R s m args below meth c Q S0 U0 pc' lv' st' M') : W p l e R s m args below meth c H locs (mS M - S0) (mU M - U0) Q (F0 m pc ls st) := by
  obtain rfl : len = 3 := len1 hl rfl
  unfold stp at h
  dsimp only at h
  split at h
  · rename_i ho
    unfold doC at h
    split at h
    · split at h
      · rename_i hk
        rw [Bool.and_eq_true] at hk
        have hr := Nat.le_of_ble_eq_true hk.1
        have hdp := Nat.le_of_ble_eq_true hk.2
        split at h
        · rename_i hb
          obtain ⟨⟨h1, h2, h3⟩, h4, h5⟩ := hb
          split at h
          · rename_i hkk
            obtain ⟨rfl, rfl, rfl, rfl⟩ := nx_inj h
            exact s_cpy C S S.2.2.1.1 (k := 1) (Or.inl rfl) hkk.1 hkk.2 ho h1 h2 h3 h4 h5 hr hdp hd (fun H1 locs1 hB hL z o hA => kk H1 locs1 ls ⟨S.1.sI z o (wAt_arr (k := 1) (n := _) (by omega) (by omega) (by rw [← hkk.1]; rfl) hB (by rw [hA, elI, elI, elI, mI_sI, if_pos rfl]; congr 2; funext j; unfold va_cpy; split <;> rfl)), hL, S.2.2⟩)
          · split at h
            · rename_i hkk
              obtain ⟨rfl, rfl, rfl, rfl⟩ := nx_inj h
              exact s_cpy C S S.2.2.1.1 (k := 2) (Or.inr rfl) hkk.1 hkk.2 ho h1 h2 h3 h4 h5 hr hdp hd (fun H1 locs1 hB hL z o hA => kk H1 locs1 ls ⟨S.1.sJ z o (wAt_arr (k := 2) (n := _) (by omega) (by omega) (by rw [← hkk.1]; rfl) hB (by rw [hA, elJ, elJ, elJ, mJ_sJ, if_pos rfl]; congr 2; funext j; unfold va_cpy; split <;> rfl)), hL, S.2.2⟩)
            · cases h
        · cases h
      · cases h
    · cases h
  · cases h
end ST
