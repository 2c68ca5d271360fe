/-! all instructions that are no call; memory grows alone; calls; the whole run -/
theorem mo_leaf {M M' : SM} (h : M' = M) : mS M ≤ mS M' ∧ mU M ≤ mU M' := by rw [h]; exact ⟨Nat.le_refl _, Nat.le_refl _⟩
section MO
variable {q pc pc' : Nat} {lv lv' : List (Option Value)} {st st' : List Value} {M M' : SM}
theorem mo_iload_n {k : Fin 4} (h : stp (.iload_n k) q pc lv st M = some (pc', lv', st', M')) : mS M ≤ mS M' ∧ mU M ≤ mU M' := by
  unfold stp at h
  dsimp only at h
  repeat' split at h
  all_goals first
    | (cases h; done)
    | exact mo_leaf (nx_inj h).2.2.2
    | exact mo_leaf (nxj_inj h).2.2.2
    | (obtain ⟨-, -, -, rfl⟩ := nx_inj h; exact ⟨Nat.le_refl _, Nat.le_refl _⟩)
    | (obtain ⟨-, -, -, rfl⟩ := nx_inj h; exact ⟨Nat.le_succ _, Nat.le_add_right _ _⟩)
theorem mo_iload {k : Nat} (h : stp (.iload k) q pc lv st M = some (pc', lv', st', M')) : mS M ≤ mS M' ∧ mU M ≤ mU M' := by
  unfold stp at h
  dsimp only at h
  repeat' split at h
  all_goals first
    | (cases h; done)
    | exact mo_leaf (nx_inj h).2.2.2
    | exact mo_leaf (nxj_inj h).2.2.2
    | (obtain ⟨-, -, -, rfl⟩ := nx_inj h; exact ⟨Nat.le_refl _, Nat.le_refl _⟩)
    | (obtain ⟨-, -, -, rfl⟩ := nx_inj h; exact ⟨Nat.le_succ _, Nat.le_add_right _ _⟩)
theorem mo_aload_n {k : Fin 4} (h : stp (.aload_n k) q pc lv st M = some (pc', lv', st', M')) : mS M ≤ mS M' ∧ mU M ≤ mU M' := by
  unfold stp at h
  dsimp only at h
  repeat' split at h
  all_goals first
    | (cases h; done)
    | exact mo_leaf (nx_inj h).2.2.2
    | exact mo_leaf (nxj_inj h).2.2.2
    | (obtain ⟨-, -, -, rfl⟩ := nx_inj h; exact ⟨Nat.le_refl _, Nat.le_refl _⟩)
    | (obtain ⟨-, -, -, rfl⟩ := nx_inj h; exact ⟨Nat.le_succ _, Nat.le_add_right _ _⟩)
theorem mo_aload {k : Nat} (h : stp (.aload k) q pc lv st M = some (pc', lv', st', M')) : mS M ≤ mS M' ∧ mU M ≤ mU M' := by
  unfold stp at h
  dsimp only at h
  repeat' split at h
  all_goals first
    | (cases h; done)
    | exact mo_leaf (nx_inj h).2.2.2
    | exact mo_leaf (nxj_inj h).2.2.2
    | (obtain ⟨-, -, -, rfl⟩ := nx_inj h; exact ⟨Nat.le_refl _, Nat.le_refl _⟩)
    | (obtain ⟨-, -, -, rfl⟩ := nx_inj h; exact ⟨Nat.le_succ _, Nat.le_add_right _ _⟩)
theorem mo_lload_n {k : Fin 4} (h : stp (.lload_n k) q pc lv st M = some (pc', lv', st', M')) : mS M ≤ mS M' ∧ mU M ≤ mU M' := by
  unfold stp at h
  dsimp only at h
  repeat' split at h
  all_goals first
    | (cases h; done)
    | exact mo_leaf (nx_inj h).2.2.2
    | exact mo_leaf (nxj_inj h).2.2.2
    | (obtain ⟨-, -, -, rfl⟩ := nx_inj h; exact ⟨Nat.le_refl _, Nat.le_refl _⟩)
    | (obtain ⟨-, -, -, rfl⟩ := nx_inj h; exact ⟨Nat.le_succ _, Nat.le_add_right _ _⟩)
theorem mo_lload {k : Nat} (h : stp (.lload k) q pc lv st M = some (pc', lv', st', M')) : mS M ≤ mS M' ∧ mU M ≤ mU M' := by
  unfold stp at h
  dsimp only at h
  repeat' split at h
  all_goals first
    | (cases h; done)
    | exact mo_leaf (nx_inj h).2.2.2
    | exact mo_leaf (nxj_inj h).2.2.2
    | (obtain ⟨-, -, -, rfl⟩ := nx_inj h; exact ⟨Nat.le_refl _, Nat.le_refl _⟩)
    | (obtain ⟨-, -, -, rfl⟩ := nx_inj h; exact ⟨Nat.le_succ _, Nat.le_add_right _ _⟩)
theorem mo_istore_n {k : Fin 4} (h : stp (.istore_n k) q pc lv st M = some (pc', lv', st', M')) : mS M ≤ mS M' ∧ mU M ≤ mU M' := by
  unfold stp at h
  dsimp only at h
  repeat' split at h
  all_goals first
    | (cases h; done)
    | exact mo_leaf (nx_inj h).2.2.2
    | exact mo_leaf (nxj_inj h).2.2.2
    | (obtain ⟨-, -, -, rfl⟩ := nx_inj h; exact ⟨Nat.le_refl _, Nat.le_refl _⟩)
    | (obtain ⟨-, -, -, rfl⟩ := nx_inj h; exact ⟨Nat.le_succ _, Nat.le_add_right _ _⟩)
theorem mo_istore {k : Nat} (h : stp (.istore k) q pc lv st M = some (pc', lv', st', M')) : mS M ≤ mS M' ∧ mU M ≤ mU M' := by
  unfold stp at h
  dsimp only at h
  repeat' split at h
  all_goals first
    | (cases h; done)
    | exact mo_leaf (nx_inj h).2.2.2
    | exact mo_leaf (nxj_inj h).2.2.2
    | (obtain ⟨-, -, -, rfl⟩ := nx_inj h; exact ⟨Nat.le_refl _, Nat.le_refl _⟩)
    | (obtain ⟨-, -, -, rfl⟩ := nx_inj h; exact ⟨Nat.le_succ _, Nat.le_add_right _ _⟩)
theorem mo_astore_n {k : Fin 4} (h : stp (.astore_n k) q pc lv st M = some (pc', lv', st', M')) : mS M ≤ mS M' ∧ mU M ≤ mU M' := by
  unfold stp at h
  dsimp only at h
  repeat' split at h
  all_goals first
    | (cases h; done)
    | exact mo_leaf (nx_inj h).2.2.2
    | exact mo_leaf (nxj_inj h).2.2.2
    | (obtain ⟨-, -, -, rfl⟩ := nx_inj h; exact ⟨Nat.le_refl _, Nat.le_refl _⟩)
    | (obtain ⟨-, -, -, rfl⟩ := nx_inj h; exact ⟨Nat.le_succ _, Nat.le_add_right _ _⟩)
theorem mo_astore {k : Nat} (h : stp (.astore k) q pc lv st M = some (pc', lv', st', M')) : mS M ≤ mS M' ∧ mU M ≤ mU M' := by
  unfold stp at h
  dsimp only at h
  repeat' split at h
  all_goals first
    | (cases h; done)
    | exact mo_leaf (nx_inj h).2.2.2
    | exact mo_leaf (nxj_inj h).2.2.2
    | (obtain ⟨-, -, -, rfl⟩ := nx_inj h; exact ⟨Nat.le_refl _, Nat.le_refl _⟩)
    | (obtain ⟨-, -, -, rfl⟩ := nx_inj h; exact ⟨Nat.le_succ _, Nat.le_add_right _ _⟩)
theorem mo_lstore_n {k : Fin 4} (h : stp (.lstore_n k) q pc lv st M = some (pc', lv', st', M')) : mS M ≤ mS M' ∧ mU M ≤ mU M' := by
  unfold stp at h
  dsimp only at h
  repeat' split at h
  all_goals first
    | (cases h; done)
    | exact mo_leaf (nx_inj h).2.2.2
    | exact mo_leaf (nxj_inj h).2.2.2
    | (obtain ⟨-, -, -, rfl⟩ := nx_inj h; exact ⟨Nat.le_refl _, Nat.le_refl _⟩)
    | (obtain ⟨-, -, -, rfl⟩ := nx_inj h; exact ⟨Nat.le_succ _, Nat.le_add_right _ _⟩)
theorem mo_lstore {k : Nat} (h : stp (.lstore k) q pc lv st M = some (pc', lv', st', M')) : mS M ≤ mS M' ∧ mU M ≤ mU M' := by
  unfold stp at h
  dsimp only at h
  repeat' split at h
  all_goals first
    | (cases h; done)
    | exact mo_leaf (nx_inj h).2.2.2
    | exact mo_leaf (nxj_inj h).2.2.2
    | (obtain ⟨-, -, -, rfl⟩ := nx_inj h; exact ⟨Nat.le_refl _, Nat.le_refl _⟩)
    | (obtain ⟨-, -, -, rfl⟩ := nx_inj h; exact ⟨Nat.le_succ _, Nat.le_add_right _ _⟩)
theorem mo_iinc {k : Nat} {n : Int} (h : stp (.iinc k n) q pc lv st M = some (pc', lv', st', M')) : mS M ≤ mS M' ∧ mU M ≤ mU M' := by
  unfold stp at h
  dsimp only at h
  repeat' split at h
  all_goals first
    | (cases h; done)
    | exact mo_leaf (nx_inj h).2.2.2
    | exact mo_leaf (nxj_inj h).2.2.2
    | (obtain ⟨-, -, -, rfl⟩ := nx_inj h; exact ⟨Nat.le_refl _, Nat.le_refl _⟩)
    | (obtain ⟨-, -, -, rfl⟩ := nx_inj h; exact ⟨Nat.le_succ _, Nat.le_add_right _ _⟩)
theorem mo_iconst {n : Int} (h : stp (.iconst n) q pc lv st M = some (pc', lv', st', M')) : mS M ≤ mS M' ∧ mU M ≤ mU M' := by
  unfold stp at h
  dsimp only at h
  repeat' split at h
  all_goals first
    | (cases h; done)
    | exact mo_leaf (nx_inj h).2.2.2
    | exact mo_leaf (nxj_inj h).2.2.2
    | (obtain ⟨-, -, -, rfl⟩ := nx_inj h; exact ⟨Nat.le_refl _, Nat.le_refl _⟩)
    | (obtain ⟨-, -, -, rfl⟩ := nx_inj h; exact ⟨Nat.le_succ _, Nat.le_add_right _ _⟩)
theorem mo_bipush {n : Int} (h : stp (.bipush n) q pc lv st M = some (pc', lv', st', M')) : mS M ≤ mS M' ∧ mU M ≤ mU M' := by
  unfold stp at h
  dsimp only at h
  repeat' split at h
  all_goals first
    | (cases h; done)
    | exact mo_leaf (nx_inj h).2.2.2
    | exact mo_leaf (nxj_inj h).2.2.2
    | (obtain ⟨-, -, -, rfl⟩ := nx_inj h; exact ⟨Nat.le_refl _, Nat.le_refl _⟩)
    | (obtain ⟨-, -, -, rfl⟩ := nx_inj h; exact ⟨Nat.le_succ _, Nat.le_add_right _ _⟩)
theorem mo_sipush {n : Int} (h : stp (.sipush n) q pc lv st M = some (pc', lv', st', M')) : mS M ≤ mS M' ∧ mU M ≤ mU M' := by
  unfold stp at h
  dsimp only at h
  repeat' split at h
  all_goals first
    | (cases h; done)
    | exact mo_leaf (nx_inj h).2.2.2
    | exact mo_leaf (nxj_inj h).2.2.2
    | (obtain ⟨-, -, -, rfl⟩ := nx_inj h; exact ⟨Nat.le_refl _, Nat.le_refl _⟩)
    | (obtain ⟨-, -, -, rfl⟩ := nx_inj h; exact ⟨Nat.le_succ _, Nat.le_add_right _ _⟩)
theorem mo_lconst {n : Fin 2} (h : stp (.lconst n) q pc lv st M = some (pc', lv', st', M')) : mS M ≤ mS M' ∧ mU M ≤ mU M' := by
  unfold stp at h
  dsimp only at h
  repeat' split at h
  all_goals first
    | (cases h; done)
    | exact mo_leaf (nx_inj h).2.2.2
    | exact mo_leaf (nxj_inj h).2.2.2
    | (obtain ⟨-, -, -, rfl⟩ := nx_inj h; exact ⟨Nat.le_refl _, Nat.le_refl _⟩)
    | (obtain ⟨-, -, -, rfl⟩ := nx_inj h; exact ⟨Nat.le_succ _, Nat.le_add_right _ _⟩)
theorem mo_ldc2_w {i : Nat} (h : stp (.ldc2_w i) q pc lv st M = some (pc', lv', st', M')) : mS M ≤ mS M' ∧ mU M ≤ mU M' := by
  unfold stp at h
  dsimp only at h
  repeat' split at h
  all_goals first
    | (cases h; done)
    | exact mo_leaf (nx_inj h).2.2.2
    | exact mo_leaf (nxj_inj h).2.2.2
    | (obtain ⟨-, -, -, rfl⟩ := nx_inj h; exact ⟨Nat.le_refl _, Nat.le_refl _⟩)
    | (obtain ⟨-, -, -, rfl⟩ := nx_inj h; exact ⟨Nat.le_succ _, Nat.le_add_right _ _⟩)
theorem mo_iadd  (h : stp (.iadd) q pc lv st M = some (pc', lv', st', M')) : mS M ≤ mS M' ∧ mU M ≤ mU M' := by
  unfold stp at h
  dsimp only at h
  repeat' split at h
  all_goals first
    | (cases h; done)
    | exact mo_leaf (nx_inj h).2.2.2
    | exact mo_leaf (nxj_inj h).2.2.2
    | (obtain ⟨-, -, -, rfl⟩ := nx_inj h; exact ⟨Nat.le_refl _, Nat.le_refl _⟩)
    | (obtain ⟨-, -, -, rfl⟩ := nx_inj h; exact ⟨Nat.le_succ _, Nat.le_add_right _ _⟩)
theorem mo_isub  (h : stp (.isub) q pc lv st M = some (pc', lv', st', M')) : mS M ≤ mS M' ∧ mU M ≤ mU M' := by
  unfold stp at h
  dsimp only at h
  repeat' split at h
  all_goals first
    | (cases h; done)
    | exact mo_leaf (nx_inj h).2.2.2
    | exact mo_leaf (nxj_inj h).2.2.2
    | (obtain ⟨-, -, -, rfl⟩ := nx_inj h; exact ⟨Nat.le_refl _, Nat.le_refl _⟩)
    | (obtain ⟨-, -, -, rfl⟩ := nx_inj h; exact ⟨Nat.le_succ _, Nat.le_add_right _ _⟩)
theorem mo_imul  (h : stp (.imul) q pc lv st M = some (pc', lv', st', M')) : mS M ≤ mS M' ∧ mU M ≤ mU M' := by
  unfold stp at h
  dsimp only at h
  repeat' split at h
  all_goals first
    | (cases h; done)
    | exact mo_leaf (nx_inj h).2.2.2
    | exact mo_leaf (nxj_inj h).2.2.2
    | (obtain ⟨-, -, -, rfl⟩ := nx_inj h; exact ⟨Nat.le_refl _, Nat.le_refl _⟩)
    | (obtain ⟨-, -, -, rfl⟩ := nx_inj h; exact ⟨Nat.le_succ _, Nat.le_add_right _ _⟩)
theorem mo_ixor  (h : stp (.ixor) q pc lv st M = some (pc', lv', st', M')) : mS M ≤ mS M' ∧ mU M ≤ mU M' := by
  unfold stp at h
  dsimp only at h
  repeat' split at h
  all_goals first
    | (cases h; done)
    | exact mo_leaf (nx_inj h).2.2.2
    | exact mo_leaf (nxj_inj h).2.2.2
    | (obtain ⟨-, -, -, rfl⟩ := nx_inj h; exact ⟨Nat.le_refl _, Nat.le_refl _⟩)
    | (obtain ⟨-, -, -, rfl⟩ := nx_inj h; exact ⟨Nat.le_succ _, Nat.le_add_right _ _⟩)
theorem mo_ishr  (h : stp (.ishr) q pc lv st M = some (pc', lv', st', M')) : mS M ≤ mS M' ∧ mU M ≤ mU M' := by
  unfold stp at h
  dsimp only at h
  repeat' split at h
  all_goals first
    | (cases h; done)
    | exact mo_leaf (nx_inj h).2.2.2
    | exact mo_leaf (nxj_inj h).2.2.2
    | (obtain ⟨-, -, -, rfl⟩ := nx_inj h; exact ⟨Nat.le_refl _, Nat.le_refl _⟩)
    | (obtain ⟨-, -, -, rfl⟩ := nx_inj h; exact ⟨Nat.le_succ _, Nat.le_add_right _ _⟩)
theorem mo_irem  (h : stp (.irem) q pc lv st M = some (pc', lv', st', M')) : mS M ≤ mS M' ∧ mU M ≤ mU M' := by
  unfold stp at h
  dsimp only at h
  repeat' split at h
  all_goals first
    | (cases h; done)
    | exact mo_leaf (nx_inj h).2.2.2
    | exact mo_leaf (nxj_inj h).2.2.2
    | (obtain ⟨-, -, -, rfl⟩ := nx_inj h; exact ⟨Nat.le_refl _, Nat.le_refl _⟩)
    | (obtain ⟨-, -, -, rfl⟩ := nx_inj h; exact ⟨Nat.le_succ _, Nat.le_add_right _ _⟩)
theorem mo_ldc {i : Nat} (h : stp (.ldc i) q pc lv st M = some (pc', lv', st', M')) : mS M ≤ mS M' ∧ mU M ≤ mU M' := by
  unfold stp at h
  dsimp only at h
  repeat' split at h
  all_goals first
    | (cases h; done)
    | exact mo_leaf (nx_inj h).2.2.2
    | exact mo_leaf (nxj_inj h).2.2.2
    | (obtain ⟨-, -, -, rfl⟩ := nx_inj h; exact ⟨Nat.le_refl _, Nat.le_refl _⟩)
    | (obtain ⟨-, -, -, rfl⟩ := nx_inj h; exact ⟨Nat.le_succ _, Nat.le_add_right _ _⟩)
theorem mo_iand  (h : stp (.iand) q pc lv st M = some (pc', lv', st', M')) : mS M ≤ mS M' ∧ mU M ≤ mU M' := by
  unfold stp at h
  dsimp only at h
  repeat' split at h
  all_goals first
    | (cases h; done)
    | exact mo_leaf (nx_inj h).2.2.2
    | exact mo_leaf (nxj_inj h).2.2.2
    | (obtain ⟨-, -, -, rfl⟩ := nx_inj h; exact ⟨Nat.le_refl _, Nat.le_refl _⟩)
    | (obtain ⟨-, -, -, rfl⟩ := nx_inj h; exact ⟨Nat.le_succ _, Nat.le_add_right _ _⟩)
theorem mo_ior  (h : stp (.ior) q pc lv st M = some (pc', lv', st', M')) : mS M ≤ mS M' ∧ mU M ≤ mU M' := by
  unfold stp at h
  dsimp only at h
  repeat' split at h
  all_goals first
    | (cases h; done)
    | exact mo_leaf (nx_inj h).2.2.2
    | exact mo_leaf (nxj_inj h).2.2.2
    | (obtain ⟨-, -, -, rfl⟩ := nx_inj h; exact ⟨Nat.le_refl _, Nat.le_refl _⟩)
    | (obtain ⟨-, -, -, rfl⟩ := nx_inj h; exact ⟨Nat.le_succ _, Nat.le_add_right _ _⟩)
theorem mo_ishl  (h : stp (.ishl) q pc lv st M = some (pc', lv', st', M')) : mS M ≤ mS M' ∧ mU M ≤ mU M' := by
  unfold stp at h
  dsimp only at h
  repeat' split at h
  all_goals first
    | (cases h; done)
    | exact mo_leaf (nx_inj h).2.2.2
    | exact mo_leaf (nxj_inj h).2.2.2
    | (obtain ⟨-, -, -, rfl⟩ := nx_inj h; exact ⟨Nat.le_refl _, Nat.le_refl _⟩)
    | (obtain ⟨-, -, -, rfl⟩ := nx_inj h; exact ⟨Nat.le_succ _, Nat.le_add_right _ _⟩)
theorem mo_ladd  (h : stp (.ladd) q pc lv st M = some (pc', lv', st', M')) : mS M ≤ mS M' ∧ mU M ≤ mU M' := by
  unfold stp at h
  dsimp only at h
  repeat' split at h
  all_goals first
    | (cases h; done)
    | exact mo_leaf (nx_inj h).2.2.2
    | exact mo_leaf (nxj_inj h).2.2.2
    | (obtain ⟨-, -, -, rfl⟩ := nx_inj h; exact ⟨Nat.le_refl _, Nat.le_refl _⟩)
    | (obtain ⟨-, -, -, rfl⟩ := nx_inj h; exact ⟨Nat.le_succ _, Nat.le_add_right _ _⟩)
theorem mo_lsub  (h : stp (.lsub) q pc lv st M = some (pc', lv', st', M')) : mS M ≤ mS M' ∧ mU M ≤ mU M' := by
  unfold stp at h
  dsimp only at h
  repeat' split at h
  all_goals first
    | (cases h; done)
    | exact mo_leaf (nx_inj h).2.2.2
    | exact mo_leaf (nxj_inj h).2.2.2
    | (obtain ⟨-, -, -, rfl⟩ := nx_inj h; exact ⟨Nat.le_refl _, Nat.le_refl _⟩)
    | (obtain ⟨-, -, -, rfl⟩ := nx_inj h; exact ⟨Nat.le_succ _, Nat.le_add_right _ _⟩)
theorem mo_land  (h : stp (.land) q pc lv st M = some (pc', lv', st', M')) : mS M ≤ mS M' ∧ mU M ≤ mU M' := by
  unfold stp at h
  dsimp only at h
  repeat' split at h
  all_goals first
    | (cases h; done)
    | exact mo_leaf (nx_inj h).2.2.2
    | exact mo_leaf (nxj_inj h).2.2.2
    | (obtain ⟨-, -, -, rfl⟩ := nx_inj h; exact ⟨Nat.le_refl _, Nat.le_refl _⟩)
    | (obtain ⟨-, -, -, rfl⟩ := nx_inj h; exact ⟨Nat.le_succ _, Nat.le_add_right _ _⟩)
theorem mo_lor  (h : stp (.lor) q pc lv st M = some (pc', lv', st', M')) : mS M ≤ mS M' ∧ mU M ≤ mU M' := by
  unfold stp at h
  dsimp only at h
  repeat' split at h
  all_goals first
    | (cases h; done)
    | exact mo_leaf (nx_inj h).2.2.2
    | exact mo_leaf (nxj_inj h).2.2.2
    | (obtain ⟨-, -, -, rfl⟩ := nx_inj h; exact ⟨Nat.le_refl _, Nat.le_refl _⟩)
    | (obtain ⟨-, -, -, rfl⟩ := nx_inj h; exact ⟨Nat.le_succ _, Nat.le_add_right _ _⟩)
theorem mo_lxor  (h : stp (.lxor) q pc lv st M = some (pc', lv', st', M')) : mS M ≤ mS M' ∧ mU M ≤ mU M' := by
  unfold stp at h
  dsimp only at h
  repeat' split at h
  all_goals first
    | (cases h; done)
    | exact mo_leaf (nx_inj h).2.2.2
    | exact mo_leaf (nxj_inj h).2.2.2
    | (obtain ⟨-, -, -, rfl⟩ := nx_inj h; exact ⟨Nat.le_refl _, Nat.le_refl _⟩)
    | (obtain ⟨-, -, -, rfl⟩ := nx_inj h; exact ⟨Nat.le_succ _, Nat.le_add_right _ _⟩)
theorem mo_lshl  (h : stp (.lshl) q pc lv st M = some (pc', lv', st', M')) : mS M ≤ mS M' ∧ mU M ≤ mU M' := by
  unfold stp at h
  dsimp only at h
  repeat' split at h
  all_goals first
    | (cases h; done)
    | exact mo_leaf (nx_inj h).2.2.2
    | exact mo_leaf (nxj_inj h).2.2.2
    | (obtain ⟨-, -, -, rfl⟩ := nx_inj h; exact ⟨Nat.le_refl _, Nat.le_refl _⟩)
    | (obtain ⟨-, -, -, rfl⟩ := nx_inj h; exact ⟨Nat.le_succ _, Nat.le_add_right _ _⟩)
theorem mo_lshr  (h : stp (.lshr) q pc lv st M = some (pc', lv', st', M')) : mS M ≤ mS M' ∧ mU M ≤ mU M' := by
  unfold stp at h
  dsimp only at h
  repeat' split at h
  all_goals first
    | (cases h; done)
    | exact mo_leaf (nx_inj h).2.2.2
    | exact mo_leaf (nxj_inj h).2.2.2
    | (obtain ⟨-, -, -, rfl⟩ := nx_inj h; exact ⟨Nat.le_refl _, Nat.le_refl _⟩)
    | (obtain ⟨-, -, -, rfl⟩ := nx_inj h; exact ⟨Nat.le_succ _, Nat.le_add_right _ _⟩)
theorem mo_lushr  (h : stp (.lushr) q pc lv st M = some (pc', lv', st', M')) : mS M ≤ mS M' ∧ mU M ≤ mU M' := by
  unfold stp at h
  dsimp only at h
  repeat' split at h
  all_goals first
    | (cases h; done)
    | exact mo_leaf (nx_inj h).2.2.2
    | exact mo_leaf (nxj_inj h).2.2.2
    | (obtain ⟨-, -, -, rfl⟩ := nx_inj h; exact ⟨Nat.le_refl _, Nat.le_refl _⟩)
    | (obtain ⟨-, -, -, rfl⟩ := nx_inj h; exact ⟨Nat.le_succ _, Nat.le_add_right _ _⟩)
theorem mo_i2l  (h : stp (.i2l) q pc lv st M = some (pc', lv', st', M')) : mS M ≤ mS M' ∧ mU M ≤ mU M' := by
  unfold stp at h
  dsimp only at h
  repeat' split at h
  all_goals first
    | (cases h; done)
    | exact mo_leaf (nx_inj h).2.2.2
    | exact mo_leaf (nxj_inj h).2.2.2
    | (obtain ⟨-, -, -, rfl⟩ := nx_inj h; exact ⟨Nat.le_refl _, Nat.le_refl _⟩)
    | (obtain ⟨-, -, -, rfl⟩ := nx_inj h; exact ⟨Nat.le_succ _, Nat.le_add_right _ _⟩)
theorem mo_l2i  (h : stp (.l2i) q pc lv st M = some (pc', lv', st', M')) : mS M ≤ mS M' ∧ mU M ≤ mU M' := by
  unfold stp at h
  dsimp only at h
  repeat' split at h
  all_goals first
    | (cases h; done)
    | exact mo_leaf (nx_inj h).2.2.2
    | exact mo_leaf (nxj_inj h).2.2.2
    | (obtain ⟨-, -, -, rfl⟩ := nx_inj h; exact ⟨Nat.le_refl _, Nat.le_refl _⟩)
    | (obtain ⟨-, -, -, rfl⟩ := nx_inj h; exact ⟨Nat.le_succ _, Nat.le_add_right _ _⟩)
theorem mo_lcmp  (h : stp (.lcmp) q pc lv st M = some (pc', lv', st', M')) : mS M ≤ mS M' ∧ mU M ≤ mU M' := by
  unfold stp at h
  dsimp only at h
  repeat' split at h
  all_goals first
    | (cases h; done)
    | exact mo_leaf (nx_inj h).2.2.2
    | exact mo_leaf (nxj_inj h).2.2.2
    | (obtain ⟨-, -, -, rfl⟩ := nx_inj h; exact ⟨Nat.le_refl _, Nat.le_refl _⟩)
    | (obtain ⟨-, -, -, rfl⟩ := nx_inj h; exact ⟨Nat.le_succ _, Nat.le_add_right _ _⟩)
theorem mo_idiv  (h : stp (.idiv) q pc lv st M = some (pc', lv', st', M')) : mS M ≤ mS M' ∧ mU M ≤ mU M' := by
  unfold stp at h
  dsimp only at h
  repeat' split at h
  all_goals first
    | (cases h; done)
    | exact mo_leaf (nx_inj h).2.2.2
    | exact mo_leaf (nxj_inj h).2.2.2
    | (obtain ⟨-, -, -, rfl⟩ := nx_inj h; exact ⟨Nat.le_refl _, Nat.le_refl _⟩)
    | (obtain ⟨-, -, -, rfl⟩ := nx_inj h; exact ⟨Nat.le_succ _, Nat.le_add_right _ _⟩)
theorem mo_dup  (h : stp (.dup) q pc lv st M = some (pc', lv', st', M')) : mS M ≤ mS M' ∧ mU M ≤ mU M' := by
  unfold stp at h
  dsimp only at h
  repeat' split at h
  all_goals first
    | (cases h; done)
    | exact mo_leaf (nx_inj h).2.2.2
    | exact mo_leaf (nxj_inj h).2.2.2
    | (obtain ⟨-, -, -, rfl⟩ := nx_inj h; exact ⟨Nat.le_refl _, Nat.le_refl _⟩)
    | (obtain ⟨-, -, -, rfl⟩ := nx_inj h; exact ⟨Nat.le_succ _, Nat.le_add_right _ _⟩)
theorem mo_pop  (h : stp (.pop) q pc lv st M = some (pc', lv', st', M')) : mS M ≤ mS M' ∧ mU M ≤ mU M' := by
  unfold stp at h
  dsimp only at h
  repeat' split at h
  all_goals first
    | (cases h; done)
    | exact mo_leaf (nx_inj h).2.2.2
    | exact mo_leaf (nxj_inj h).2.2.2
    | (obtain ⟨-, -, -, rfl⟩ := nx_inj h; exact ⟨Nat.le_refl _, Nat.le_refl _⟩)
    | (obtain ⟨-, -, -, rfl⟩ := nx_inj h; exact ⟨Nat.le_succ _, Nat.le_add_right _ _⟩)
theorem mo_dup2  (h : stp (.dup2) q pc lv st M = some (pc', lv', st', M')) : mS M ≤ mS M' ∧ mU M ≤ mU M' := by
  unfold stp at h
  dsimp only at h
  repeat' split at h
  all_goals first
    | (cases h; done)
    | exact mo_leaf (nx_inj h).2.2.2
    | exact mo_leaf (nxj_inj h).2.2.2
    | (obtain ⟨-, -, -, rfl⟩ := nx_inj h; exact ⟨Nat.le_refl _, Nat.le_refl _⟩)
    | (obtain ⟨-, -, -, rfl⟩ := nx_inj h; exact ⟨Nat.le_succ _, Nat.le_add_right _ _⟩)
theorem mo_goto {j : Int} (h : stp (.goto j) q pc lv st M = some (pc', lv', st', M')) : mS M ≤ mS M' ∧ mU M ≤ mU M' := by
  unfold stp at h
  dsimp only at h
  repeat' split at h
  all_goals first
    | (cases h; done)
    | exact mo_leaf (nx_inj h).2.2.2
    | exact mo_leaf (nxj_inj h).2.2.2
    | (obtain ⟨-, -, -, rfl⟩ := nx_inj h; exact ⟨Nat.le_refl _, Nat.le_refl _⟩)
    | (obtain ⟨-, -, -, rfl⟩ := nx_inj h; exact ⟨Nat.le_succ _, Nat.le_add_right _ _⟩)
theorem mo_ifCond_eq {j : Int} (h : stp (.ifCond .eq j) q pc lv st M = some (pc', lv', st', M')) : mS M ≤ mS M' ∧ mU M ≤ mU M' := by
  unfold stp at h
  dsimp only at h
  repeat' split at h
  all_goals first
    | (cases h; done)
    | exact mo_leaf (nx_inj h).2.2.2
    | exact mo_leaf (nxj_inj h).2.2.2
    | (obtain ⟨-, -, -, rfl⟩ := nx_inj h; exact ⟨Nat.le_refl _, Nat.le_refl _⟩)
    | (obtain ⟨-, -, -, rfl⟩ := nx_inj h; exact ⟨Nat.le_succ _, Nat.le_add_right _ _⟩)
theorem mo_ifCond_ne {j : Int} (h : stp (.ifCond .ne j) q pc lv st M = some (pc', lv', st', M')) : mS M ≤ mS M' ∧ mU M ≤ mU M' := by
  unfold stp at h
  dsimp only at h
  repeat' split at h
  all_goals first
    | (cases h; done)
    | exact mo_leaf (nx_inj h).2.2.2
    | exact mo_leaf (nxj_inj h).2.2.2
    | (obtain ⟨-, -, -, rfl⟩ := nx_inj h; exact ⟨Nat.le_refl _, Nat.le_refl _⟩)
    | (obtain ⟨-, -, -, rfl⟩ := nx_inj h; exact ⟨Nat.le_succ _, Nat.le_add_right _ _⟩)
theorem mo_ifCond_lt {j : Int} (h : stp (.ifCond .lt j) q pc lv st M = some (pc', lv', st', M')) : mS M ≤ mS M' ∧ mU M ≤ mU M' := by
  unfold stp at h
  dsimp only at h
  repeat' split at h
  all_goals first
    | (cases h; done)
    | exact mo_leaf (nx_inj h).2.2.2
    | exact mo_leaf (nxj_inj h).2.2.2
    | (obtain ⟨-, -, -, rfl⟩ := nx_inj h; exact ⟨Nat.le_refl _, Nat.le_refl _⟩)
    | (obtain ⟨-, -, -, rfl⟩ := nx_inj h; exact ⟨Nat.le_succ _, Nat.le_add_right _ _⟩)
theorem mo_ifCond_ge {j : Int} (h : stp (.ifCond .ge j) q pc lv st M = some (pc', lv', st', M')) : mS M ≤ mS M' ∧ mU M ≤ mU M' := by
  unfold stp at h
  dsimp only at h
  repeat' split at h
  all_goals first
    | (cases h; done)
    | exact mo_leaf (nx_inj h).2.2.2
    | exact mo_leaf (nxj_inj h).2.2.2
    | (obtain ⟨-, -, -, rfl⟩ := nx_inj h; exact ⟨Nat.le_refl _, Nat.le_refl _⟩)
    | (obtain ⟨-, -, -, rfl⟩ := nx_inj h; exact ⟨Nat.le_succ _, Nat.le_add_right _ _⟩)
theorem mo_ifCond_gt {j : Int} (h : stp (.ifCond .gt j) q pc lv st M = some (pc', lv', st', M')) : mS M ≤ mS M' ∧ mU M ≤ mU M' := by
  unfold stp at h
  dsimp only at h
  repeat' split at h
  all_goals first
    | (cases h; done)
    | exact mo_leaf (nx_inj h).2.2.2
    | exact mo_leaf (nxj_inj h).2.2.2
    | (obtain ⟨-, -, -, rfl⟩ := nx_inj h; exact ⟨Nat.le_refl _, Nat.le_refl _⟩)
    | (obtain ⟨-, -, -, rfl⟩ := nx_inj h; exact ⟨Nat.le_succ _, Nat.le_add_right _ _⟩)
theorem mo_ifCond_le {j : Int} (h : stp (.ifCond .le j) q pc lv st M = some (pc', lv', st', M')) : mS M ≤ mS M' ∧ mU M ≤ mU M' := by
  unfold stp at h
  dsimp only at h
  repeat' split at h
  all_goals first
    | (cases h; done)
    | exact mo_leaf (nx_inj h).2.2.2
    | exact mo_leaf (nxj_inj h).2.2.2
    | (obtain ⟨-, -, -, rfl⟩ := nx_inj h; exact ⟨Nat.le_refl _, Nat.le_refl _⟩)
    | (obtain ⟨-, -, -, rfl⟩ := nx_inj h; exact ⟨Nat.le_succ _, Nat.le_add_right _ _⟩)
theorem mo_if_icmp_eq {j : Int} (h : stp (.if_icmp .eq j) q pc lv st M = some (pc', lv', st', M')) : mS M ≤ mS M' ∧ mU M ≤ mU M' := by
  unfold stp at h
  dsimp only at h
  repeat' split at h
  all_goals first
    | (cases h; done)
    | exact mo_leaf (nx_inj h).2.2.2
    | exact mo_leaf (nxj_inj h).2.2.2
    | (obtain ⟨-, -, -, rfl⟩ := nx_inj h; exact ⟨Nat.le_refl _, Nat.le_refl _⟩)
    | (obtain ⟨-, -, -, rfl⟩ := nx_inj h; exact ⟨Nat.le_succ _, Nat.le_add_right _ _⟩)
theorem mo_if_icmp_ne {j : Int} (h : stp (.if_icmp .ne j) q pc lv st M = some (pc', lv', st', M')) : mS M ≤ mS M' ∧ mU M ≤ mU M' := by
  unfold stp at h
  dsimp only at h
  repeat' split at h
  all_goals first
    | (cases h; done)
    | exact mo_leaf (nx_inj h).2.2.2
    | exact mo_leaf (nxj_inj h).2.2.2
    | (obtain ⟨-, -, -, rfl⟩ := nx_inj h; exact ⟨Nat.le_refl _, Nat.le_refl _⟩)
    | (obtain ⟨-, -, -, rfl⟩ := nx_inj h; exact ⟨Nat.le_succ _, Nat.le_add_right _ _⟩)
theorem mo_if_icmp_lt {j : Int} (h : stp (.if_icmp .lt j) q pc lv st M = some (pc', lv', st', M')) : mS M ≤ mS M' ∧ mU M ≤ mU M' := by
  unfold stp at h
  dsimp only at h
  repeat' split at h
  all_goals first
    | (cases h; done)
    | exact mo_leaf (nx_inj h).2.2.2
    | exact mo_leaf (nxj_inj h).2.2.2
    | (obtain ⟨-, -, -, rfl⟩ := nx_inj h; exact ⟨Nat.le_refl _, Nat.le_refl _⟩)
    | (obtain ⟨-, -, -, rfl⟩ := nx_inj h; exact ⟨Nat.le_succ _, Nat.le_add_right _ _⟩)
theorem mo_if_icmp_ge {j : Int} (h : stp (.if_icmp .ge j) q pc lv st M = some (pc', lv', st', M')) : mS M ≤ mS M' ∧ mU M ≤ mU M' := by
  unfold stp at h
  dsimp only at h
  repeat' split at h
  all_goals first
    | (cases h; done)
    | exact mo_leaf (nx_inj h).2.2.2
    | exact mo_leaf (nxj_inj h).2.2.2
    | (obtain ⟨-, -, -, rfl⟩ := nx_inj h; exact ⟨Nat.le_refl _, Nat.le_refl _⟩)
    | (obtain ⟨-, -, -, rfl⟩ := nx_inj h; exact ⟨Nat.le_succ _, Nat.le_add_right _ _⟩)
theorem mo_if_icmp_gt {j : Int} (h : stp (.if_icmp .gt j) q pc lv st M = some (pc', lv', st', M')) : mS M ≤ mS M' ∧ mU M ≤ mU M' := by
  unfold stp at h
  dsimp only at h
  repeat' split at h
  all_goals first
    | (cases h; done)
    | exact mo_leaf (nx_inj h).2.2.2
    | exact mo_leaf (nxj_inj h).2.2.2
    | (obtain ⟨-, -, -, rfl⟩ := nx_inj h; exact ⟨Nat.le_refl _, Nat.le_refl _⟩)
    | (obtain ⟨-, -, -, rfl⟩ := nx_inj h; exact ⟨Nat.le_succ _, Nat.le_add_right _ _⟩)
theorem mo_if_icmp_le {j : Int} (h : stp (.if_icmp .le j) q pc lv st M = some (pc', lv', st', M')) : mS M ≤ mS M' ∧ mU M ≤ mU M' := by
  unfold stp at h
  dsimp only at h
  repeat' split at h
  all_goals first
    | (cases h; done)
    | exact mo_leaf (nx_inj h).2.2.2
    | exact mo_leaf (nxj_inj h).2.2.2
    | (obtain ⟨-, -, -, rfl⟩ := nx_inj h; exact ⟨Nat.le_refl _, Nat.le_refl _⟩)
    | (obtain ⟨-, -, -, rfl⟩ := nx_inj h; exact ⟨Nat.le_succ _, Nat.le_add_right _ _⟩)
theorem mo_tableswitch {d lo hi : Int} {offs : Array Int} (h : stp (.tableswitch d lo hi offs) q pc lv st M = some (pc', lv', st', M')) : mS M ≤ mS M' ∧ mU M ≤ mU M' := by
  unfold stp at h
  dsimp only at h
  repeat' split at h
  all_goals first
    | (cases h; done)
    | exact mo_leaf (nx_inj h).2.2.2
    | exact mo_leaf (nxj_inj h).2.2.2
    | (obtain ⟨-, -, -, rfl⟩ := nx_inj h; exact ⟨Nat.le_refl _, Nat.le_refl _⟩)
    | (obtain ⟨-, -, -, rfl⟩ := nx_inj h; exact ⟨Nat.le_succ _, Nat.le_add_right _ _⟩)
theorem mo_getfield {i : Nat} (h : stp (.getfield i) q pc lv st M = some (pc', lv', st', M')) : mS M ≤ mS M' ∧ mU M ≤ mU M' := by
  unfold stp at h
  dsimp only at h
  repeat' split at h
  all_goals first
    | (cases h; done)
    | exact mo_leaf (nx_inj h).2.2.2
    | exact mo_leaf (nxj_inj h).2.2.2
    | (obtain ⟨-, -, -, rfl⟩ := nx_inj h; exact ⟨Nat.le_refl _, Nat.le_refl _⟩)
    | (obtain ⟨-, -, -, rfl⟩ := nx_inj h; exact ⟨Nat.le_succ _, Nat.le_add_right _ _⟩)
theorem mo_putfield {i : Nat} (h : stp (.putfield i) q pc lv st M = some (pc', lv', st', M')) : mS M ≤ mS M' ∧ mU M ≤ mU M' := by
  unfold stp at h
  dsimp only at h
  repeat' split at h
  all_goals first
    | (cases h; done)
    | exact mo_leaf (nx_inj h).2.2.2
    | exact mo_leaf (nxj_inj h).2.2.2
    | (obtain ⟨-, -, -, rfl⟩ := nx_inj h; exact ⟨Nat.le_refl _, Nat.le_refl _⟩)
    | (obtain ⟨-, -, -, rfl⟩ := nx_inj h; exact ⟨Nat.le_succ _, Nat.le_add_right _ _⟩)
theorem mo_iaload  (h : stp (.iaload) q pc lv st M = some (pc', lv', st', M')) : mS M ≤ mS M' ∧ mU M ≤ mU M' := by
  unfold stp at h
  dsimp only at h
  repeat' split at h
  all_goals first
    | (cases h; done)
    | exact mo_leaf (nx_inj h).2.2.2
    | exact mo_leaf (nxj_inj h).2.2.2
    | (obtain ⟨-, -, -, rfl⟩ := nx_inj h; exact ⟨Nat.le_refl _, Nat.le_refl _⟩)
    | (obtain ⟨-, -, -, rfl⟩ := nx_inj h; exact ⟨Nat.le_succ _, Nat.le_add_right _ _⟩)
theorem mo_laload  (h : stp (.laload) q pc lv st M = some (pc', lv', st', M')) : mS M ≤ mS M' ∧ mU M ≤ mU M' := by
  unfold stp at h
  dsimp only at h
  repeat' split at h
  all_goals first
    | (cases h; done)
    | exact mo_leaf (nx_inj h).2.2.2
    | exact mo_leaf (nxj_inj h).2.2.2
    | (obtain ⟨-, -, -, rfl⟩ := nx_inj h; exact ⟨Nat.le_refl _, Nat.le_refl _⟩)
    | (obtain ⟨-, -, -, rfl⟩ := nx_inj h; exact ⟨Nat.le_succ _, Nat.le_add_right _ _⟩)
theorem mo_aaload  (h : stp (.aaload) q pc lv st M = some (pc', lv', st', M')) : mS M ≤ mS M' ∧ mU M ≤ mU M' := by
  unfold stp at h
  dsimp only at h
  repeat' split at h
  all_goals first
    | (cases h; done)
    | exact mo_leaf (nx_inj h).2.2.2
    | exact mo_leaf (nxj_inj h).2.2.2
    | (obtain ⟨-, -, -, rfl⟩ := nx_inj h; exact ⟨Nat.le_refl _, Nat.le_refl _⟩)
    | (obtain ⟨-, -, -, rfl⟩ := nx_inj h; exact ⟨Nat.le_succ _, Nat.le_add_right _ _⟩)
theorem mo_iastore  (h : stp (.iastore) q pc lv st M = some (pc', lv', st', M')) : mS M ≤ mS M' ∧ mU M ≤ mU M' := by
  unfold stp at h
  dsimp only at h
  repeat' split at h
  all_goals first
    | (cases h; done)
    | exact mo_leaf (nx_inj h).2.2.2
    | exact mo_leaf (nxj_inj h).2.2.2
    | (obtain ⟨-, -, -, rfl⟩ := nx_inj h; exact ⟨Nat.le_refl _, Nat.le_refl _⟩)
    | (obtain ⟨-, -, -, rfl⟩ := nx_inj h; exact ⟨Nat.le_succ _, Nat.le_add_right _ _⟩)
theorem mo_lastore  (h : stp (.lastore) q pc lv st M = some (pc', lv', st', M')) : mS M ≤ mS M' ∧ mU M ≤ mU M' := by
  unfold stp at h
  dsimp only at h
  repeat' split at h
  all_goals first
    | (cases h; done)
    | exact mo_leaf (nx_inj h).2.2.2
    | exact mo_leaf (nxj_inj h).2.2.2
    | (obtain ⟨-, -, -, rfl⟩ := nx_inj h; exact ⟨Nat.le_refl _, Nat.le_refl _⟩)
    | (obtain ⟨-, -, -, rfl⟩ := nx_inj h; exact ⟨Nat.le_succ _, Nat.le_add_right _ _⟩)
theorem mo_aastore  (h : stp (.aastore) q pc lv st M = some (pc', lv', st', M')) : mS M ≤ mS M' ∧ mU M ≤ mU M' := by
  unfold stp at h
  dsimp only at h
  repeat' split at h
  all_goals first
    | (cases h; done)
    | exact mo_leaf (nx_inj h).2.2.2
    | exact mo_leaf (nxj_inj h).2.2.2
    | (obtain ⟨-, -, -, rfl⟩ := nx_inj h; exact ⟨Nat.le_refl _, Nat.le_refl _⟩)
    | (obtain ⟨-, -, -, rfl⟩ := nx_inj h; exact ⟨Nat.le_succ _, Nat.le_add_right _ _⟩)
theorem mo_arraylength  (h : stp (.arraylength) q pc lv st M = some (pc', lv', st', M')) : mS M ≤ mS M' ∧ mU M ≤ mU M' := by
  unfold stp at h
  dsimp only at h
  repeat' split at h
  all_goals first
    | (cases h; done)
    | exact mo_leaf (nx_inj h).2.2.2
    | exact mo_leaf (nxj_inj h).2.2.2
    | (obtain ⟨-, -, -, rfl⟩ := nx_inj h; exact ⟨Nat.le_refl _, Nat.le_refl _⟩)
    | (obtain ⟨-, -, -, rfl⟩ := nx_inj h; exact ⟨Nat.le_succ _, Nat.le_add_right _ _⟩)
theorem mo_new {i : Nat} (h : stp (.new i) q pc lv st M = some (pc', lv', st', M')) : mS M ≤ mS M' ∧ mU M ≤ mU M' := by
  unfold stp at h
  dsimp only at h
  repeat' split at h
  all_goals first
    | (cases h; done)
    | exact mo_leaf (nx_inj h).2.2.2
    | exact mo_leaf (nxj_inj h).2.2.2
    | (obtain ⟨-, -, -, rfl⟩ := nx_inj h; exact ⟨Nat.le_refl _, Nat.le_refl _⟩)
    | (obtain ⟨-, -, -, rfl⟩ := nx_inj h; exact ⟨Nat.le_succ _, Nat.le_add_right _ _⟩)
theorem mo_newarray {t : ArrayType} (h : stp (.newarray t) q pc lv st M = some (pc', lv', st', M')) : mS M ≤ mS M' ∧ mU M ≤ mU M' := by
  unfold stp at h
  dsimp only at h
  repeat' split at h
  all_goals first
    | (cases h; done)
    | exact mo_leaf (nx_inj h).2.2.2
    | exact mo_leaf (nxj_inj h).2.2.2
    | (obtain ⟨-, -, -, rfl⟩ := nx_inj h; exact ⟨Nat.le_refl _, Nat.le_refl _⟩)
    | (obtain ⟨-, -, -, rfl⟩ := nx_inj h; exact ⟨Nat.le_succ _, Nat.le_add_right _ _⟩)
theorem mo_anewarray {i : Nat} (h : stp (.anewarray i) q pc lv st M = some (pc', lv', st', M')) : mS M ≤ mS M' ∧ mU M ≤ mU M' := by
  unfold stp at h
  dsimp only at h
  repeat' split at h
  all_goals first
    | (cases h; done)
    | exact mo_leaf (nx_inj h).2.2.2
    | exact mo_leaf (nxj_inj h).2.2.2
    | (obtain ⟨-, -, -, rfl⟩ := nx_inj h; exact ⟨Nat.le_refl _, Nat.le_refl _⟩)
    | (obtain ⟨-, -, -, rfl⟩ := nx_inj h; exact ⟨Nat.le_succ _, Nat.le_add_right _ _⟩)
theorem mo_invokespecial {i : Nat} (h : stp (.invokespecial i) q pc lv st M = some (pc', lv', st', M')) : mS M ≤ mS M' ∧ mU M ≤ mU M' := by
  unfold stp at h
  dsimp only at h
  repeat' split at h
  all_goals first
    | (cases h; done)
    | exact mo_leaf (nx_inj h).2.2.2
    | exact mo_leaf (nxj_inj h).2.2.2
    | (obtain ⟨-, -, -, rfl⟩ := nx_inj h; exact ⟨Nat.le_refl _, Nat.le_refl _⟩)
    | (obtain ⟨-, -, -, rfl⟩ := nx_inj h; exact ⟨Nat.le_succ _, Nat.le_add_right _ _⟩)
theorem mo_invokestatic {i : Nat} (h : stp (.invokestatic i) q pc lv st M = some (pc', lv', st', M')) : mS M ≤ mS M' ∧ mU M ≤ mU M' := by
  unfold stp at h
  dsimp only at h
  unfold doC at h
  repeat' split at h
  all_goals first
    | (cases h; done)
    | exact mo_leaf (nx_inj h).2.2.2
    | exact mo_leaf (nxj_inj h).2.2.2
    | (obtain ⟨-, -, -, rfl⟩ := nx_inj h; exact ⟨Nat.le_refl _, Nat.le_refl _⟩)
    | (obtain ⟨-, -, -, rfl⟩ := nx_inj h; exact ⟨Nat.le_succ _, Nat.le_add_right _ _⟩)
end MO
theorem mo_all {i : Instr} {q pc pc' : Nat} {lv lv' : List (Option Value)} {st st' : List Value} {M M' : SM} (h : stp i q pc lv st M = some (pc', lv', st', M')) : mS M ≤ mS M' ∧ mU M ≤ mU M' := by
  cases i
  case iload_n => exact mo_iload_n h
  case iload => exact mo_iload h
  case aload_n => exact mo_aload_n h
  case aload => exact mo_aload h
  case lload_n => exact mo_lload_n h
  case lload => exact mo_lload h
  case istore_n => exact mo_istore_n h
  case istore => exact mo_istore h
  case astore_n => exact mo_astore_n h
  case astore => exact mo_astore h
  case lstore_n => exact mo_lstore_n h
  case lstore => exact mo_lstore h
  case iinc => exact mo_iinc h
  case iconst => exact mo_iconst h
  case bipush => exact mo_bipush h
  case sipush => exact mo_sipush h
  case lconst => exact mo_lconst h
  case ldc2_w => exact mo_ldc2_w h
  case iadd => exact mo_iadd h
  case isub => exact mo_isub h
  case imul => exact mo_imul h
  case ixor => exact mo_ixor h
  case ishr => exact mo_ishr h
  case irem => exact mo_irem h
  case ldc => exact mo_ldc h
  case iand => exact mo_iand h
  case ior => exact mo_ior h
  case ishl => exact mo_ishl h
  case ladd => exact mo_ladd h
  case lsub => exact mo_lsub h
  case land => exact mo_land h
  case lor => exact mo_lor h
  case lxor => exact mo_lxor h
  case lshl => exact mo_lshl h
  case lshr => exact mo_lshr h
  case lushr => exact mo_lushr h
  case i2l => exact mo_i2l h
  case l2i => exact mo_l2i h
  case lcmp => exact mo_lcmp h
  case idiv => exact mo_idiv h
  case dup => exact mo_dup h
  case pop => exact mo_pop h
  case dup2 => exact mo_dup2 h
  case goto => exact mo_goto h
  case ifCond cc j =>
    cases cc
    · exact mo_ifCond_eq h
    · exact mo_ifCond_ne h
    · exact mo_ifCond_lt h
    · exact mo_ifCond_ge h
    · exact mo_ifCond_gt h
    · exact mo_ifCond_le h
  case if_icmp cc j =>
    cases cc
    · exact mo_if_icmp_eq h
    · exact mo_if_icmp_ne h
    · exact mo_if_icmp_lt h
    · exact mo_if_icmp_ge h
    · exact mo_if_icmp_gt h
    · exact mo_if_icmp_le h
  case tableswitch => exact mo_tableswitch h
  case getfield => exact mo_getfield h
  case putfield => exact mo_putfield h
  case iaload => exact mo_iaload h
  case laload => exact mo_laload h
  case aaload => exact mo_aaload h
  case iastore => exact mo_iastore h
  case lastore => exact mo_lastore h
  case aastore => exact mo_aastore h
  case arraylength => exact mo_arraylength h
  case new => exact mo_new h
  case newarray => exact mo_newarray h
  case anewarray => exact mo_anewarray h
  case invokespecial => exact mo_invokespecial h
  case invokestatic => exact mo_invokestatic h
  all_goals exact nomatch (show (none : Option Nx) = some _ from h)
theorem st_all {p : Program} {l : Launch} {e : Env} {R : Room} {s : State} {m : MethodId} {args : Array Value} {below : List Frame} {meth : Method} {c : Code} {H : Heap} {locs : List Loc} {Q : State → Prop}
    {G : GT} {q : Nat} {M M' : SM} {pc pc' len S0 U0 : Nat} {ls : Array Slot} {lv lv' : List (Option Value)} {st st' : List Value} {i : Instr}
    (C : Cx G q p R s m args meth c) (S : Sd G q M H locs ls lv) (hq : q < 88) (hS0 : S0 ≤ mS M) (hU0 : U0 ≤ mU M) (hc : mS M' ≤ R.cells + S0) (hu : mU M' ≤ R.slots + U0) (hd : decode (mB q) pc = .ok (i, len)) (hl : lenOK i len = true) (h : stp i q pc lv st M = some (pc', lv', st', M')) (kk : Kk G q p l e R s m args below meth c Q S0 U0 pc' lv' st' M') : W p l e R s m args below meth c H locs (mS M - S0) (mU M - U0) Q (F0 m pc ls st) := by
  cases i
  case iload_n => exact st_iload_n C S hq hS0 hU0 hc hu hd hl h kk
  case iload => exact st_iload C S hq hS0 hU0 hc hu hd hl h kk
  case aload_n => exact st_aload_n C S hq hS0 hU0 hc hu hd hl h kk
  case aload => exact st_aload C S hq hS0 hU0 hc hu hd hl h kk
  case lload_n => exact st_lload_n C S hq hS0 hU0 hc hu hd hl h kk
  case lload => exact st_lload C S hq hS0 hU0 hc hu hd hl h kk
  case istore_n => exact st_istore_n C S hq hS0 hU0 hc hu hd hl h kk
  case istore => exact st_istore C S hq hS0 hU0 hc hu hd hl h kk
  case astore_n => exact st_astore_n C S hq hS0 hU0 hc hu hd hl h kk
  case astore => exact st_astore C S hq hS0 hU0 hc hu hd hl h kk
  case lstore_n => exact st_lstore_n C S hq hS0 hU0 hc hu hd hl h kk
  case lstore => exact st_lstore C S hq hS0 hU0 hc hu hd hl h kk
  case iinc => exact st_iinc C S hq hS0 hU0 hc hu hd hl h kk
  case iconst => exact st_iconst C S hq hS0 hU0 hc hu hd hl h kk
  case bipush => exact st_bipush C S hq hS0 hU0 hc hu hd hl h kk
  case sipush => exact st_sipush C S hq hS0 hU0 hc hu hd hl h kk
  case lconst => exact st_lconst C S hq hS0 hU0 hc hu hd hl h kk
  case ldc2_w => exact st_ldc2_w C S hq hS0 hU0 hc hu hd hl h kk
  case iadd => exact st_iadd C S hq hS0 hU0 hc hu hd hl h kk
  case isub => exact st_isub C S hq hS0 hU0 hc hu hd hl h kk
  case imul => exact st_imul C S hq hS0 hU0 hc hu hd hl h kk
  case ixor => exact st_ixor C S hq hS0 hU0 hc hu hd hl h kk
  case ishr => exact st_ishr C S hq hS0 hU0 hc hu hd hl h kk
  case irem => exact st_irem C S hq hS0 hU0 hc hu hd hl h kk
  case ldc => exact st_ldc C S hq hS0 hU0 hc hu hd hl h kk
  case iand => exact st_iand C S hq hS0 hU0 hc hu hd hl h kk
  case ior => exact st_ior C S hq hS0 hU0 hc hu hd hl h kk
  case ishl => exact st_ishl C S hq hS0 hU0 hc hu hd hl h kk
  case ladd => exact st_ladd C S hq hS0 hU0 hc hu hd hl h kk
  case lsub => exact st_lsub C S hq hS0 hU0 hc hu hd hl h kk
  case land => exact st_land C S hq hS0 hU0 hc hu hd hl h kk
  case lor => exact st_lor C S hq hS0 hU0 hc hu hd hl h kk
  case lxor => exact st_lxor C S hq hS0 hU0 hc hu hd hl h kk
  case lshl => exact st_lshl C S hq hS0 hU0 hc hu hd hl h kk
  case lshr => exact st_lshr C S hq hS0 hU0 hc hu hd hl h kk
  case lushr => exact st_lushr C S hq hS0 hU0 hc hu hd hl h kk
  case i2l => exact st_i2l C S hq hS0 hU0 hc hu hd hl h kk
  case l2i => exact st_l2i C S hq hS0 hU0 hc hu hd hl h kk
  case lcmp => exact st_lcmp C S hq hS0 hU0 hc hu hd hl h kk
  case idiv => exact st_idiv C S hq hS0 hU0 hc hu hd hl h kk
  case dup => exact st_dup C S hq hS0 hU0 hc hu hd hl h kk
  case pop => exact st_pop C S hq hS0 hU0 hc hu hd hl h kk
  case dup2 => exact st_dup2 C S hq hS0 hU0 hc hu hd hl h kk
  case goto => exact st_goto C S hq hS0 hU0 hc hu hd hl h kk
  case ifCond cc j =>
    cases cc
    · exact st_ifCond_eq C S hq hS0 hU0 hc hu hd hl h kk
    · exact st_ifCond_ne C S hq hS0 hU0 hc hu hd hl h kk
    · exact st_ifCond_lt C S hq hS0 hU0 hc hu hd hl h kk
    · exact st_ifCond_ge C S hq hS0 hU0 hc hu hd hl h kk
    · exact st_ifCond_gt C S hq hS0 hU0 hc hu hd hl h kk
    · exact st_ifCond_le C S hq hS0 hU0 hc hu hd hl h kk
  case if_icmp cc j =>
    cases cc
    · exact st_if_icmp_eq C S hq hS0 hU0 hc hu hd hl h kk
    · exact st_if_icmp_ne C S hq hS0 hU0 hc hu hd hl h kk
    · exact st_if_icmp_lt C S hq hS0 hU0 hc hu hd hl h kk
    · exact st_if_icmp_ge C S hq hS0 hU0 hc hu hd hl h kk
    · exact st_if_icmp_gt C S hq hS0 hU0 hc hu hd hl h kk
    · exact st_if_icmp_le C S hq hS0 hU0 hc hu hd hl h kk
  case tableswitch => exact st_tableswitch C S hq hS0 hU0 hc hu hd hl h kk
  case getfield => exact st_getfield C S hq hS0 hU0 hc hu hd hl h kk
  case putfield => exact st_putfield C S hq hS0 hU0 hc hu hd hl h kk
  case iaload => exact st_iaload C S hq hS0 hU0 hc hu hd hl h kk
  case laload => exact st_laload C S hq hS0 hU0 hc hu hd hl h kk
  case aaload => exact st_aaload C S hq hS0 hU0 hc hu hd hl h kk
  case iastore => exact st_iastore C S hq hS0 hU0 hc hu hd hl h kk
  case lastore => exact st_lastore C S hq hS0 hU0 hc hu hd hl h kk
  case aastore => exact st_aastore C S hq hS0 hU0 hc hu hd hl h kk
  case arraylength => exact st_arraylength C S hq hS0 hU0 hc hu hd hl h kk
  case new => exact st_new C S hq hS0 hU0 hc hu hd hl h kk
  case newarray => exact st_newarray C S hq hS0 hU0 hc hu hd hl h kk
  case anewarray => exact st_anewarray C S hq hS0 hU0 hc hu hd hl h kk
  case invokespecial => exact st_invokespecial C S hq hS0 hU0 hc hu hd hl h kk
  case invokestatic => exact st_invokestatic C S hq hS0 hU0 hc hu hd hl h kk
  all_goals exact nomatch (show (none : Option Nx) = some _ from h)
