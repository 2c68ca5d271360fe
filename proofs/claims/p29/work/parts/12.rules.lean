/-! one step of the small machine, as an equation -/
/-- behind a call -/
noncomputable def cbn (o : Out) (q pc : Nat) (ls : List (Option Value)) (rest : List Value) : Out := match o with
  | some (v, M1) => rn q pc ls (v.toList ++ rest) M1
  | none => none
theorem cbn_i (v : Value) (M1 : SM) (q pc : Nat) (ls : List (Option Value)) (rest : List Value) : cbn (some (some v, M1)) q pc ls rest = rn q pc ls (v :: rest) M1 := rfl
theorem cbn_v (M1 : SM) (q pc : Nat) (ls : List (Option Value)) (rest : List Value) : cbn (some (none, M1)) q pc ls rest = rn q pc ls rest M1 := rfl
theorem hdl_ite (c : Prop) [Decidable c] (q : Nat) (a b : Option Res) : hdl (rn q) cl (if c then a else b) = if c then hdl (rn q) cl a else hdl (rn q) cl b := by split <;> rfl
theorem map_ite (c : Prop) [Decidable c] (a b : Option Nx) : (if c then a else b).map (Sum.inl : Nx → Res) = if c then a.map .inl else b.map .inl := by split <;> rfl
theorem ite_cg {c : Prop} [Decidable c] {a a' b b' : Out} (h1 : a = a') (h2 : b = b') : (if c then a else b) = if c then a' else b' := by rw [h1, h2]
section RR
variable {q pc len : Nat} {ls : List (Option Value)} {r : List Value} {M : SM}
theorem r_sto {i : Instr} (hd : decode (mB q) pc = .ok (i, len)) (hl : lenOK i len = true) (st : List Value) : rn q pc ls st M = hdl (rn q) cl (sto i q pc ls st M) := by
  rw [rn_eq hd]
  unfold stq
  rw [if_pos hl]
theorem r_nx {i : Instr} {st st' : List Value} {pc' : Nat} {ls' : List (Option Value)} {M' : SM} (hd : decode (mB q) pc = .ok (i, len)) (hl : lenOK i len = true) (h : sto i q pc ls st M = some (.inl (pc', ls', st', M'))) : rn q pc ls st M = rn q pc' ls' st' M' := by
  rw [r_sto hd hl, h]
  rfl
theorem r_iload_n {k : Fin 4} {x : Int32} (hd : decode (mB q) pc = .ok (.iload_n k, 1)) (h : ls[(k : Nat)]? = some (some (.int x))) : rn q pc ls r M = rn q (pc + 1) ls (.int x :: r) M := r_nx hd rfl (by show Option.map _ (match ls[(k : Nat)]? with | some (some (.int x)) => nx (pc + 1) ls (.int x :: r) M | _ => none) = _; rw [h]; rfl)
theorem r_iload {k : Nat} {x : Int32} (hd : decode (mB q) pc = .ok (.iload k, 2)) (h : ls[k]? = some (some (.int x))) : rn q pc ls r M = rn q (pc + 2) ls (.int x :: r) M := r_nx hd rfl (by show Option.map _ (match ls[k]? with | some (some (.int x)) => nx (pc + 2) ls (.int x :: r) M | _ => none) = _; rw [h]; rfl)
theorem r_aload_n {k : Fin 4} {x : Nat} (hd : decode (mB q) pc = .ok (.aload_n k, 1)) (h : ls[(k : Nat)]? = some (some (.ref x))) : rn q pc ls r M = rn q (pc + 1) ls (.ref x :: r) M := r_nx hd rfl (by show Option.map _ (match ls[(k : Nat)]? with | some (some (.ref x)) => nx (pc + 1) ls (.ref x :: r) M | _ => none) = _; rw [h]; rfl)
theorem r_aload {k : Nat} {x : Nat} (hd : decode (mB q) pc = .ok (.aload k, 2)) (h : ls[k]? = some (some (.ref x))) : rn q pc ls r M = rn q (pc + 2) ls (.ref x :: r) M := r_nx hd rfl (by show Option.map _ (match ls[k]? with | some (some (.ref x)) => nx (pc + 2) ls (.ref x :: r) M | _ => none) = _; rw [h]; rfl)
theorem r_lload_n {k : Fin 4} {x : Int64} (hd : decode (mB q) pc = .ok (.lload_n k, 1)) (h : ls[(k : Nat)]? = some (some (.long x))) (h2 : ls[(k : Nat) + 1]? = some none) : rn q pc ls r M = rn q (pc + 1) ls (.long x :: r) M := r_nx hd rfl (by show Option.map _ (match ls[(k : Nat)]?, ls[(k : Nat) + 1]? with | some (some (.long x)), some none => nx (pc + 1) ls (.long x :: r) M | _, _ => none) = _; rw [h, h2]; rfl)
theorem r_lload {k : Nat} {x : Int64} (hd : decode (mB q) pc = .ok (.lload k, 2)) (h : ls[k]? = some (some (.long x))) (h2 : ls[k + 1]? = some none) : rn q pc ls r M = rn q (pc + 2) ls (.long x :: r) M := r_nx hd rfl (by show Option.map _ (match ls[k]?, ls[k + 1]? with | some (some (.long x)), some none => nx (pc + 2) ls (.long x :: r) M | _, _ => none) = _; rw [h, h2]; rfl)
theorem r_istore_n {k : Fin 4} {x : Int32} (hd : decode (mB q) pc = .ok (.istore_n k, 1)) (h : (k : Nat) + 1 ≤ ls.length) : rn q pc ls (.int x :: r) M = rn q (pc + 1) (ls.set (k : Nat) (some (.int x))) r M := r_nx hd rfl (by show Option.map _ (if (k : Nat) < ls.length then nx (pc + 1) (ls.set (k : Nat) (some (.int x))) r M else none) = _; rw [if_pos (Nat.lt_of_succ_le h)]; rfl)
theorem r_istore {k : Nat} {x : Int32} (hd : decode (mB q) pc = .ok (.istore k, 2)) (h : k + 1 ≤ ls.length) : rn q pc ls (.int x :: r) M = rn q (pc + 2) (ls.set k (some (.int x))) r M := r_nx hd rfl (by show Option.map _ (if k < ls.length then nx (pc + 2) (ls.set k (some (.int x))) r M else none) = _; rw [if_pos (Nat.lt_of_succ_le h)]; rfl)
theorem r_astore_n {k : Fin 4} {x : Nat} (hd : decode (mB q) pc = .ok (.astore_n k, 1)) (h : (k : Nat) + 1 ≤ ls.length) : rn q pc ls (.ref x :: r) M = rn q (pc + 1) (ls.set (k : Nat) (some (.ref x))) r M := r_nx hd rfl (by show Option.map _ (if (k : Nat) < ls.length then nx (pc + 1) (ls.set (k : Nat) (some (.ref x))) r M else none) = _; rw [if_pos (Nat.lt_of_succ_le h)]; rfl)
theorem r_lstore_n {k : Fin 4} {x : Int64} (hd : decode (mB q) pc = .ok (.lstore_n k, 1)) (h : (k : Nat) + 2 ≤ ls.length) : rn q pc ls (.long x :: r) M = rn q (pc + 1) ((ls.set (k : Nat) (some (.long x))).set ((k : Nat) + 1) none) r M := r_nx hd rfl (by show Option.map _ (if (k : Nat) + 1 < ls.length then nx (pc + 1) ((ls.set (k : Nat) (some (.long x))).set ((k : Nat) + 1) none) r M else none) = _; rw [if_pos (Nat.lt_of_succ_le h)]; rfl)
theorem r_lstore {k : Nat} {x : Int64} (hd : decode (mB q) pc = .ok (.lstore k, 2)) (h : k + 2 ≤ ls.length) : rn q pc ls (.long x :: r) M = rn q (pc + 2) ((ls.set k (some (.long x))).set (k + 1) none) r M := r_nx hd rfl (by show Option.map _ (if k + 1 < ls.length then nx (pc + 2) ((ls.set k (some (.long x))).set (k + 1) none) r M else none) = _; rw [if_pos (Nat.lt_of_succ_le h)]; rfl)
theorem r_iinc {k : Nat} {n : Int} {x : Int32} (hd : decode (mB q) pc = .ok (.iinc k n, 3)) (h : ls[k]? = some (some (.int x))) : rn q pc ls r M = rn q (pc + 3) (ls.set k (some (.int (x + Int32.ofInt n)))) r M := r_nx hd rfl (by show Option.map _ (match ls[k]? with | some (some (.int x)) => nx (pc + 3) (ls.set k (some (.int (x + Int32.ofInt n)))) r M | _ => none) = _; rw [h]; rfl)
theorem r_if {i : Instr} {o : Int} {c : Prop} [Decidable c] {st r : List Value} (hd : decode (mB q) pc = .ok (i, 3)) (hl : lenOK i 3 = true) (h0 : 0 ≤ (pc : Int) + o) (h : sto i q pc ls st M = Option.map .inl (if 0 ≤ (pc : Int) + o then (if c then nx ((pc : Int) + o).toNat ls r M else nx (pc + 3) ls r M) else none)) : rn q pc ls st M = if c then rn q ((pc : Int) + o).toNat ls r M else rn q (pc + 3) ls r M := by
  rw [r_sto hd hl, h, if_pos h0, map_ite, hdl_ite]
  rfl
theorem r_goto {o : Int} (hd : decode (mB q) pc = .ok (.goto o, 3)) (h0 : 0 ≤ (pc : Int) + o) : rn q pc ls r M = rn q ((pc : Int) + o).toNat ls r M := r_nx hd rfl (by show Option.map _ (nxj pc o ls r M) = _; unfold nxj; rw [if_pos h0]; rfl)
theorem r_getI {i ci k a : Nat} (hd : decode (mB q) pc = .ok (.getfield i, 3)) (hf : fld (ow q) i = some (ci, k)) (ht : fT ci k = 0 ∨ fT ci k = 3) : rn q pc ls (.ref a :: r) M = if mK M a = (10 + ci, 0) then rn q (pc + 3) ls (.int (mI M a k) :: r) M else none := by
  rw [r_sto hd rfl]
  show hdl (rn q) cl (Option.map _ (match fld (ow q) i, (Value.ref a :: r) with | some (ci, k), .ref a :: r => if mK M a = (10 + ci, 0) then nx (pc + 3) ls (fv M a ci k :: r) M else none | _, _ => none)) = _
  rw [hf]
  dsimp only
  rw [map_ite, hdl_ite]
  have e : fv M a ci k = .int (mI M a k) := by unfold fv; rcases ht with h | h <;> rw [h] <;> rfl
  rw [e]
  rfl
theorem r_getJ {i ci k a : Nat} (hd : decode (mB q) pc = .ok (.getfield i, 3)) (hf : fld (ow q) i = some (ci, k)) (ht : fT ci k = 1) : rn q pc ls (.ref a :: r) M = if mK M a = (10 + ci, 0) then rn q (pc + 3) ls (.long (mJ M a k) :: r) M else none := by
  rw [r_sto hd rfl]
  show hdl (rn q) cl (Option.map _ (match fld (ow q) i, (Value.ref a :: r) with | some (ci, k), .ref a :: r => if mK M a = (10 + ci, 0) then nx (pc + 3) ls (fv M a ci k :: r) M else none | _, _ => none)) = _
  rw [hf]
  dsimp only
  rw [map_ite, hdl_ite]
  have e : fv M a ci k = .long (mJ M a k) := by unfold fv; rw [ht]; rfl
  rw [e]
  rfl
theorem r_getP {i ci k a : Nat} (hd : decode (mB q) pc = .ok (.getfield i, 3)) (hf : fld (ow q) i = some (ci, k)) (ht : fT ci k = 2) : rn q pc ls (.ref a :: r) M = if mK M a = (10 + ci, 0) then rn q (pc + 3) ls (va_rf (mP M a k) :: r) M else none := by
  rw [r_sto hd rfl]
  show hdl (rn q) cl (Option.map _ (match fld (ow q) i, (Value.ref a :: r) with | some (ci, k), .ref a :: r => if mK M a = (10 + ci, 0) then nx (pc + 3) ls (fv M a ci k :: r) M else none | _, _ => none)) = _
  rw [hf]
  dsimp only
  rw [map_ite, hdl_ite]
  have e : fv M a ci k = va_rf (mP M a k) := by unfold fv; rw [ht]; rfl
  rw [e]
  rfl
theorem r_putI {i ci k a : Nat} {x : Int32} (hd : decode (mB q) pc = .ok (.putfield i, 3)) (hf : fld (ow q) i = some (ci, k)) (ht : fT ci k = 0) (hn : finOK ci k q = true) : rn q pc ls (.int x :: .ref a :: r) M = if mK M a = (10 + ci, 0) then rn q (pc + 3) ls r (sI M a (va_up (mI M a) k x)) else none := by
  rw [r_sto hd rfl]
  show hdl (rn q) cl (Option.map _ (match fld (ow q) i, (Value.int x :: Value.ref a :: r) with
    | some (ci, k), .int x :: .ref a :: r => if mK M a = (10 + ci, 0) ∧ finOK ci k q = true then (if fT ci k = 0 ∨ (fT ci k = 3 ∧ (x = 0 ∨ x = 1)) then nx (pc + 3) ls r (sI M a (va_up (mI M a) k x)) else none) else none
    | some (ci, k), .long x :: .ref a :: r => if mK M a = (10 + ci, 0) ∧ finOK ci k q = true then (if fT ci k = 1 then nx (pc + 3) ls r (sJ M a (va_up (mJ M a) k x)) else none) else none
    | some (ci, k), .ref b :: .ref a :: r => if mK M a = (10 + ci, 0) ∧ finOK ci k q = true then (if fT ci k = 2 then nx (pc + 3) ls r (sP M a (va_up (mP M a) k (some b))) else none) else none
    | _, _ => none)) = _
  rw [hf]
  dsimp only
  rw [if_pos (Or.inl ht), map_ite, hdl_ite]
  simp only [hn, and_true]
  rfl
theorem r_putZ {i ci k a : Nat} {x : Int32} (hd : decode (mB q) pc = .ok (.putfield i, 3)) (hf : fld (ow q) i = some (ci, k)) (ht : fT ci k = 3) (hn : finOK ci k q = true) (hx : x = 0 ∨ x = 1) : rn q pc ls (.int x :: .ref a :: r) M = if mK M a = (10 + ci, 0) then rn q (pc + 3) ls r (sI M a (va_up (mI M a) k x)) else none := by
  rw [r_sto hd rfl]
  show hdl (rn q) cl (Option.map _ (match fld (ow q) i, (Value.int x :: Value.ref a :: r) with
    | some (ci, k), .int x :: .ref a :: r => if mK M a = (10 + ci, 0) ∧ finOK ci k q = true then (if fT ci k = 0 ∨ (fT ci k = 3 ∧ (x = 0 ∨ x = 1)) then nx (pc + 3) ls r (sI M a (va_up (mI M a) k x)) else none) else none
    | some (ci, k), .long x :: .ref a :: r => if mK M a = (10 + ci, 0) ∧ finOK ci k q = true then (if fT ci k = 1 then nx (pc + 3) ls r (sJ M a (va_up (mJ M a) k x)) else none) else none
    | some (ci, k), .ref b :: .ref a :: r => if mK M a = (10 + ci, 0) ∧ finOK ci k q = true then (if fT ci k = 2 then nx (pc + 3) ls r (sP M a (va_up (mP M a) k (some b))) else none) else none
    | _, _ => none)) = _
  rw [hf]
  dsimp only
  rw [if_pos (Or.inr ⟨ht, hx⟩), map_ite, hdl_ite]
  simp only [hn, and_true]
  rfl
theorem r_putJ {i ci k a : Nat} {x : Int64} (hd : decode (mB q) pc = .ok (.putfield i, 3)) (hf : fld (ow q) i = some (ci, k)) (ht : fT ci k = 1) (hn : finOK ci k q = true) : rn q pc ls (.long x :: .ref a :: r) M = if mK M a = (10 + ci, 0) then rn q (pc + 3) ls r (sJ M a (va_up (mJ M a) k x)) else none := by
  rw [r_sto hd rfl]
  show hdl (rn q) cl (Option.map _ (match fld (ow q) i, (Value.long x :: Value.ref a :: r) with
    | some (ci, k), .int x :: .ref a :: r => if mK M a = (10 + ci, 0) ∧ finOK ci k q = true then (if fT ci k = 0 ∨ (fT ci k = 3 ∧ (x = 0 ∨ x = 1)) then nx (pc + 3) ls r (sI M a (va_up (mI M a) k x)) else none) else none
    | some (ci, k), .long x :: .ref a :: r => if mK M a = (10 + ci, 0) ∧ finOK ci k q = true then (if fT ci k = 1 then nx (pc + 3) ls r (sJ M a (va_up (mJ M a) k x)) else none) else none
    | some (ci, k), .ref b :: .ref a :: r => if mK M a = (10 + ci, 0) ∧ finOK ci k q = true then (if fT ci k = 2 then nx (pc + 3) ls r (sP M a (va_up (mP M a) k (some b))) else none) else none
    | _, _ => none)) = _
  rw [hf]
  dsimp only
  rw [if_pos ht, map_ite, hdl_ite]
  simp only [hn, and_true]
  rfl
theorem r_putP {i ci k a b : Nat} (hd : decode (mB q) pc = .ok (.putfield i, 3)) (hf : fld (ow q) i = some (ci, k)) (ht : fT ci k = 2) (hn : finOK ci k q = true) : rn q pc ls (.ref b :: .ref a :: r) M = if mK M a = (10 + ci, 0) then rn q (pc + 3) ls r (sP M a (va_up (mP M a) k (some b))) else none := by
  rw [r_sto hd rfl]
  show hdl (rn q) cl (Option.map _ (match fld (ow q) i, (Value.ref b :: Value.ref a :: r) with
    | some (ci, k), .int x :: .ref a :: r => if mK M a = (10 + ci, 0) ∧ finOK ci k q = true then (if fT ci k = 0 ∨ (fT ci k = 3 ∧ (x = 0 ∨ x = 1)) then nx (pc + 3) ls r (sI M a (va_up (mI M a) k x)) else none) else none
    | some (ci, k), .long x :: .ref a :: r => if mK M a = (10 + ci, 0) ∧ finOK ci k q = true then (if fT ci k = 1 then nx (pc + 3) ls r (sJ M a (va_up (mJ M a) k x)) else none) else none
    | some (ci, k), .ref b :: .ref a :: r => if mK M a = (10 + ci, 0) ∧ finOK ci k q = true then (if fT ci k = 2 then nx (pc + 3) ls r (sP M a (va_up (mP M a) k (some b))) else none) else none
    | _, _ => none)) = _
  rw [hf]
  dsimp only
  rw [if_pos ht, map_ite, hdl_ite]
  simp only [hn, and_true]
  rfl
/-- an instruction under a condition -/
theorem r_cnd {i : Instr} {c : Prop} [Decidable c] {st st' : List Value} {pc' : Nat} {ls' : List (Option Value)} {M' : SM} (hd : decode (mB q) pc = .ok (i, len)) (hl : lenOK i len = true) (h : sto i q pc ls st M = Option.map .inl (if c then nx pc' ls' st' M' else none)) : rn q pc ls st M = if c then rn q pc' ls' st' M' else none := by
  rw [r_sto hd hl, h, map_ite, hdl_ite]
  rfl
theorem r_new {i ci : Nat} (hd : decode (mB q) pc = .ok (.new i, 3)) (hf : ncl (ow q) i = some ci) (hc : ci < nCl) : rn q pc ls r M = rn q (pc + 3) ls (.ref (mS M) :: r) (nw M (10 + ci, 0) (NN ci)) := r_nx hd rfl (by
  show Option.map _ (match ncl (ow q) i with | some ci => if ci < nCl then nx (pc + 3) ls (.ref (mS M) :: r) (nw M (10 + ci, 0) (NN ci)) else none | none => none) = _
  rw [hf]
  dsimp only
  rw [if_pos hc]
  rfl)
theorem r_newI {n : Int32} (hd : decode (mB q) pc = .ok (.newarray .int, 2)) : rn q pc ls (.int n :: r) M = if 0 ≤ n ∧ n ≤ 100000 then rn q (pc + 2) ls (.ref (mS M) :: r) (nw M (1, n.toNatClampNeg) n.toNatClampNeg) else none := r_cnd hd rfl rfl
theorem r_newJ {n : Int32} (hd : decode (mB q) pc = .ok (.newarray .long, 2)) : rn q pc ls (.int n :: r) M = if 0 ≤ n ∧ n ≤ 100000 then rn q (pc + 2) ls (.ref (mS M) :: r) (nw M (2, n.toNatClampNeg) n.toNatClampNeg) else none := r_cnd hd rfl rfl
theorem r_newP {n : Int32} {i k : Nat} (hk : k = 3 ∨ k = 4) (hd : decode (mB q) pc = .ok (.anewarray i, 3)) (hf : ncl (ow q) i = some (aoC k)) : rn q pc ls (.int n :: r) M = if 0 ≤ n ∧ n ≤ 100000 then rn q (pc + 3) ls (.ref (mS M) :: r) (nw M (k, n.toNatClampNeg) n.toNatClampNeg) else none := by
  refine r_cnd hd rfl ?_
  show Option.map _ (match ncl (ow q) i, (Value.int n :: r) with | some ci, .int n :: r => if (0 ≤ n ∧ n ≤ 100000) ∧ (ci = aoC 3 ∨ ci = aoC 4) then nx (pc + 3) ls (.ref (mS M) :: r) (nw M ((if ci = aoC 3 then 3 else 4), n.toNatClampNeg) n.toNatClampNeg) else none | _, _ => none) = _
  rw [hf]
  dsimp only
  rcases hk with rfl | rfl
  · simp only [true_or, and_true, if_true]
  · simp only [or_true, and_true]
    rfl
theorem r_ireturn {x : Int32} (hd : decode (mB q) pc = .ok (.ireturn, 1)) (hr : mRt q = some .int) : rn q pc ls [.int x] M = some (some (.int x), M) := by
  rw [r_sto hd rfl]
  show hdl (rn q) cl (if retOK (mRt q) x = true then _ else _) = _
  rw [hr]
  rfl
theorem r_zreturn {x : Int32} (hd : decode (mB q) pc = .ok (.ireturn, 1)) (hr : mRt q = some .boolean) : rn q pc ls [.int x] M = if x = 0 ∨ x = 1 then some (some (.int x), M) else none := by
  rw [r_sto hd rfl]
  show hdl (rn q) cl (if retOK (mRt q) x = true then _ else _) = _
  rw [hr, hdl_ite]
  have e : (retOK (some .boolean) x = true) = (x = 0 ∨ x = 1) := by
    show ((x == 0 || x == 1) = true) = _
    rw [Bool.or_eq_true, beq_iff_eq, beq_iff_eq]
  simp only [e]
  rfl
theorem r_lreturn {x : Int64} (hd : decode (mB q) pc = .ok (.lreturn, 1)) (hr : mRt q = some .long) : rn q pc ls [.long x] M = some (some (.long x), M) := by
  rw [r_sto hd rfl]
  show hdl (rn q) cl (if mRt q = some .long then _ else _) = _
  rw [if_pos hr]
  rfl
theorem r_vreturn (hd : decode (mB q) pc = .ok (.return_, 1)) (hr : mRt q = none) : rn q pc ls [] M = some (none, M) := by
  rw [r_sto hd rfl]
  show hdl (rn q) cl (if mRt q = none then _ else _) = _
  rw [if_pos hr]
  rfl
theorem doV_n {q2 n kd : Nat} {st : List Value} (hn : nPar q2 = n) : doV q pc ls st M q2 kd = (match (st.take n).reverse, st.drop n with
  | as, .ref a :: r => if callOK q q2 (.ref a :: as) r && (kd == 0 || kd == 1) && as.length == n then (if mK M a = (10 + ow q2, 0) then some (.inr (.inr (q2, .ref a :: as, M, pc + 3, ls, r))) else none) else none
  | _, _ => none) := by subst hn; rfl
theorem doI_n {q2 n kd : Nat} {st : List Value} (hn : nPar q2 = n) : doI q pc ls st M q2 kd = (match (st.take n).reverse, st.drop n with
  | as, .ref a :: r => if callOK q q2 (.ref a :: as) r && (kd == 4 || kd == 5) && as.length == n then some (.inr (.inr (q2, .ref a :: as, M, pc + 3, ls, r))) else none
  | _, _ => none) := by subst hn; rfl
theorem doS_n {q2 n kd : Nat} {st : List Value} (hn : nPar q2 = n) : doS q pc ls st M q2 kd = (match (st.take n).reverse, st.drop n with
  | as, r => if callOK q q2 as r && (kd == 2 || kd == 3) && as.length == n then some (.inr (.inr (q2, as, M, pc + 3, ls, r))) else none) := by subst hn; rfl
theorem r_callV {i q2 kd a : Nat} {as st : List Value} (hd : decode (mB q) pc = .ok (.invokevirtual i, 3)) (hf : cal (ow q) i = some (q2, kd)) (hst : doV q pc ls st M q2 kd = if mK M a = (10 + ow q2, 0) then some (.inr (.inr (q2, .ref a :: as, M, pc + 3, ls, r))) else none) : rn q pc ls st M = if mK M a = (10 + ow q2, 0) then cbn (cl q2 (.ref a :: as) M) q (pc + 3) ls r else none := by
  rw [r_sto hd rfl]
  show hdl (rn q) cl (match cal (ow q) i with | some (q2, kd) => doV q pc ls st M q2 kd | none => none) = _
  rw [hf]
  dsimp only
  rw [hst, hdl_ite]
  rfl
theorem r_callS {i q2 kd : Nat} {as st : List Value} (hd : decode (mB q) pc = .ok (.invokestatic i, 3)) (hc : isCpy (ow q) i = false) (hf : cal (ow q) i = some (q2, kd)) (hst : doS q pc ls st M q2 kd = some (.inr (.inr (q2, as, M, pc + 3, ls, r)))) : rn q pc ls st M = cbn (cl q2 as M) q (pc + 3) ls r := by
  rw [r_sto hd rfl]
  show hdl (rn q) cl (if isCpy (ow q) i = true then _ else match cal (ow q) i with | some (q2, kd) => doS q pc ls st M q2 kd | none => none) = _
  rw [if_neg (by rw [hc]; decide), hf]
  dsimp only
  rw [hst]
  rfl
theorem r_callI {i q2 kd : Nat} {as st : List Value} (hd : decode (mB q) pc = .ok (.invokespecial i, 3)) (hc : isObj (ow q) i = false) (hf : cal (ow q) i = some (q2, kd)) (hst : doI q pc ls st M q2 kd = some (.inr (.inr (q2, as, M, pc + 3, ls, r)))) : rn q pc ls st M = cbn (cl q2 as M) q (pc + 3) ls r := by
  rw [r_sto hd rfl]
  show hdl (rn q) cl (if isObj (ow q) i = true then _ else match cal (ow q) i with | some (q2, kd) => doI q pc ls st M q2 kd | none => none) = _
  rw [if_neg (by rw [hc]; decide), hf]
  dsimp only
  rw [hst]
  rfl
theorem r_obj {i a : Nat} (hd : decode (mB q) pc = .ok (.invokespecial i, 3)) (hc : isObj (ow q) i = true) (hr : catS r ≤ 8 ∧ 1 ≤ dp q) : rn q pc ls (.ref a :: r) M = rn q (pc + 3) ls r M := by
  refine r_nx hd rfl ?_
  show (if isObj (ow q) i = true then Option.map _ (if isObj (ow q) i = true then (if catS r ≤ 8 ∧ 1 ≤ dp q then nx (pc + 3) ls r M else none) else none) else _) = _
  rw [if_pos hc, if_pos hc, if_pos hr]
  rfl
theorem r_cpy {i a b : Nat} {n dp0 sp0 : Int32} (hd : decode (mB q) pc = .ok (.invokestatic i, 3)) (hc : isCpy (ow q) i = true) (hr : (Nat.ble (catS r) 8 && Nat.ble 1 (dp q)) = true) : rn q pc ls (.int n :: .int dp0 :: .ref a :: .int sp0 :: .ref b :: r) M = if (¬ sp0 < 0 ∧ ¬ dp0 < 0 ∧ ¬ n < 0) ∧ sp0.toNatClampNeg + n.toNatClampNeg ≤ (mK M b).2 ∧ dp0.toNatClampNeg + n.toNatClampNeg ≤ (mK M a).2 then
        (if (mK M a).1 = 1 ∧ (mK M b).1 = 1 then rn q (pc + 3) ls r (sI M a (va_cpy (mI M b) (mI M a) sp0.toNatClampNeg dp0.toNatClampNeg n.toNatClampNeg))
         else if (mK M a).1 = 2 ∧ (mK M b).1 = 2 then rn q (pc + 3) ls r (sJ M a (va_cpy (mJ M b) (mJ M a) sp0.toNatClampNeg dp0.toNatClampNeg n.toNatClampNeg)) else none)
       else none := by
  rw [r_sto hd rfl]
  show hdl (rn q) cl (if isCpy (ow q) i = true then Option.map _ (if isCpy (ow q) i = true then doC q pc ls _ M else none) else _) = _
  rw [if_pos hc, if_pos hc]
  unfold doC
  dsimp only
  rw [if_pos hr, map_ite, map_ite, map_ite, hdl_ite, hdl_ite, hdl_ite]
  rfl
theorem r_tab {d lo hi : Int} {offs : Array Int} {x : Int32} (hd : decode (mB q) pc = .ok (.tableswitch d lo hi offs, len)) : rn q pc ls (.int x :: r) M = hdl (rn q) cl (Option.map .inl (if x.toInt < lo ∨ hi < x.toInt then nxj pc d ls r M else (match offs[(x.toInt - lo).toNat]? with | some o => nxj pc o ls r M | none => none))) := r_sto hd rfl _
theorem r_tabO {d lo hi : Int} {offs : Array Int} {x : Int32} (hd : decode (mB q) pc = .ok (.tableswitch d lo hi offs, len)) (hx : x.toInt < lo ∨ hi < x.toInt) (h0 : 0 ≤ (pc : Int) + d) : rn q pc ls (.int x :: r) M = rn q ((pc : Int) + d).toNat ls r M := by
  rw [r_tab hd, if_pos hx]
  unfold nxj
  rw [if_pos h0]
  rfl
end RR
theorem ti_ne {x c : Int32} (h : ¬ x = c) : x.toInt ≠ c.toInt := fun e => h (Int32.toInt_inj.mp e)
