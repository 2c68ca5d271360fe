/-! the whole run: what the small machine answers, the machine answers -/
theorem doV_spec {q pc q2 kd : Nat} {lv : List (Option Value)} {st : List Value} {M : SM} {r : Res} (h : doV q pc lv st M q2 kd = some r) : ∃ (a : Nat) (as rest : List Value), st = as.reverse ++ .ref a :: rest ∧ (kd = 0 ∨ kd = 1) ∧ as.length = nPar q2 ∧ callOK q q2 (.ref a :: as) rest = true ∧ mK M a = (10 + ow q2, 0) ∧ r = .inr (.inr (q2, .ref a :: as, M, pc + 3, lv, rest)) := by
  unfold doV at h
  split at h
  · rename_i hdrop
    split at h
    · rename_i hc
      split at h
      · rename_i hk
        simp only [Bool.and_eq_true, Bool.or_eq_true, beq_iff_eq] at hc
        refine ⟨_, (st.take (nPar q2)).reverse, _, ?_, hc.1.2, hc.2, hc.1.1, hk, (Option.some.inj h).symm⟩
        rw [List.reverse_reverse]
        have := List.take_append_drop (nPar q2) st
        rw [hdrop] at this
        exact this.symm
      · cases h
    · cases h
  · cases h
theorem doI_spec {q pc q2 kd : Nat} {lv : List (Option Value)} {st : List Value} {M : SM} {r : Res} (h : doI q pc lv st M q2 kd = some r) : ∃ (a : Nat) (as rest : List Value), st = as.reverse ++ .ref a :: rest ∧ (kd = 4 ∨ kd = 5) ∧ as.length = nPar q2 ∧ callOK q q2 (.ref a :: as) rest = true ∧ r = .inr (.inr (q2, .ref a :: as, M, pc + 3, lv, rest)) := by
  unfold doI at h
  split at h
  · rename_i hdrop
    split at h
    · rename_i hc
      simp only [Bool.and_eq_true, Bool.or_eq_true, beq_iff_eq] at hc
      refine ⟨_, (st.take (nPar q2)).reverse, _, ?_, hc.1.2, hc.2, hc.1.1, (Option.some.inj h).symm⟩
      rw [List.reverse_reverse]
      have := List.take_append_drop (nPar q2) st
      rw [hdrop] at this
      exact this.symm
    · cases h
  · cases h
theorem doS_spec {q pc q2 kd : Nat} {lv : List (Option Value)} {st : List Value} {M : SM} {r : Res} (h : doS q pc lv st M q2 kd = some r) : ∃ (as rest : List Value), st = as.reverse ++ rest ∧ (kd = 2 ∨ kd = 3) ∧ as.length = nPar q2 ∧ callOK q q2 as rest = true ∧ r = .inr (.inr (q2, as, M, pc + 3, lv, rest)) := by
  unfold doS at h
  split at h
  split at h
  · rename_i hc
    simp only [Bool.and_eq_true, Bool.or_eq_true, beq_iff_eq] at hc
    refine ⟨(st.take (nPar q2)).reverse, st.drop (nPar q2), ?_, hc.1.2, hc.2, hc.1.1, (Option.some.inj h).symm⟩
    rw [List.reverse_reverse]
    exact (List.take_append_drop (nPar q2) st).symm
  · cases h
theorem callOK_spec {q q2 : Nat} {as rest : List Value} (h : callOK q q2 as rest = true) : (entA as).length ≤ mL q2 ∧ catS rest ≤ 8 ∧ dp q2 < dp q := by
  unfold callOK at h
  simp only [Bool.and_eq_true] at h
  exact ⟨Nat.le_of_ble_eq_true h.1.1, Nat.le_of_ble_eq_true h.1.2, Nat.le_of_ble_eq_true h.2⟩
/-- the instruction with which a method ends -/
def retI (q : Nat) (i : Instr) (v : Option Value) : Prop := match v with
  | none => i = .return_ ∧ mRt q = none
  | some (.int x) => i = .ireturn ∧ retOK (mRt q) x = true
  | some (.long _) => i = .lreturn ∧ mRt q = some .long
  | _ => False
/-- one step of the small machine: a next instruction, an end, a call -/
theorem sto_spec {i : Instr} {q pc : Nat} {lv : List (Option Value)} {st : List Value} {M : SM} {r : Res} (h : sto i q pc lv st M = some r) :
    (∃ x : Nx, stp i q pc lv st M = some x ∧ r = .inl x) ∨
    (∃ v : Option Value, retI q i v ∧ st = v.toList ∧ r = .inr (.inl (v, M))) ∨
    (∃ (k q2 kd : Nat), cal (ow q) k = some (q2, kd) ∧ ((i = .invokevirtual k ∧ doV q pc lv st M q2 kd = some r) ∨ (i = .invokestatic k ∧ doS q pc lv st M q2 kd = some r) ∨ (i = .invokespecial k ∧ doI q pc lv st M q2 kd = some r))) := by
  have hm : ∀ {i : Instr}, (stp i q pc lv st M).map Sum.inl = some r → ∃ x : Nx, stp i q pc lv st M = some x ∧ r = .inl x := fun h => by
    obtain ⟨x, hx, rfl⟩ := Option.map_eq_some_iff.mp h
    exact ⟨x, hx, rfl⟩
  unfold sto at h
  split at h
  · split at h
    · split at h
      · rename_i hr
        exact Or.inr (Or.inl ⟨none, ⟨rfl, hr⟩, rfl, (Option.some.inj h).symm⟩)
      · cases h
    · cases h
  · split at h
    · split at h
      · rename_i x hr
        exact Or.inr (Or.inl ⟨some (.int x), ⟨rfl, hr⟩, rfl, (Option.some.inj h).symm⟩)
      · cases h
    · cases h
  · split at h
    · split at h
      · rename_i x hr
        exact Or.inr (Or.inl ⟨some (.long x), ⟨rfl, hr⟩, rfl, (Option.some.inj h).symm⟩)
      · cases h
    · cases h
  · split at h
    · rename_i hf
      exact Or.inr (Or.inr ⟨_, _, _, hf, Or.inl ⟨rfl, h⟩⟩)
    · cases h
  · split at h
    · exact Or.inl (hm h)
    · split at h
      · rename_i hf
        exact Or.inr (Or.inr ⟨_, _, _, hf, Or.inr (Or.inl ⟨rfl, h⟩)⟩)
      · cases h
  · split at h
    · exact Or.inl (hm h)
    · split at h
      · rename_i hf
        exact Or.inr (Or.inr ⟨_, _, _, hf, Or.inr (Or.inr ⟨rfl, h⟩)⟩)
      · cases h
  · exact Or.inl (hm h)
/-- what a run of the small machine says of the machine: from there the machine comes to an end of the method with that answer, that memory -/
def Runs (l : Launch) (G : GT) (q pc : Nat) (lv : List (Option Value)) (st : List Value) (M : SM) (v : Option Value) (M2 : SM) : Prop :=
  ∀ (p : Program) (e : Env) (R : Room) (s : State) (m : MethodId) (args : Array Value) (below : List Frame) (meth : Method) (c : Code) (H : Heap) (locs : List Loc) (Q : State → Prop) (ls : Array Slot) (S0 U0 : Nat),
    q < 88 → Cx G q p R s m args meth c → Sd G q M H locs ls lv → S0 ≤ mS M → U0 ≤ mU M → mS M2 ≤ R.cells + S0 → mU M2 ≤ R.slots + U0 →
    (∀ (H' : Heap) (locs' : List Loc) (pc' : Nat) (ls' : Array Slot) (i : Instr), Wld G M2 H' → (∀ x ∈ locs', gB G ≤ x.base) → retI q i v → decode (mB q) pc' = .ok (i, 1) → W p l e R s m args below meth c H' locs' (mS M2 - S0) (mU M2 - U0) Q (F0 m pc' ls' v.toList)) →
    W p l e R s m args below meth c H locs (mS M - S0) (mU M - U0) Q (F0 m pc ls st)
theorem runs_call {l : Launch} {G : GT} {q pc : Nat} {lv : List (Option Value)} {st : List Value} {M M1 M2 : SM} {v v1 : Option Value} {rest : List Value}
    (hrun : ∀ (p : Program) (e : Env) (R : Room) (s : State) (m : MethodId) (args : Array Value) (below : List Frame) (meth : Method) (c : Code) (H : Heap) (locs : List Loc) (ls : Array Slot) (cells slots : Nat), q < 88 → Cx G q p R s m args meth c → Sd G q M H locs ls lv → cells + (mS M1 - mS M) ≤ R.cells → slots + (mU M1 - mU M) ≤ R.slots →
      ∃ a : Array Value, va_Run p l e R s m args below meth c H locs cells slots (mS M1 - mS M) (mU M1 - mU M) (F0 m pc ls st) rest (mQc G M1 v1 a) (fun a => gB G ≤ a))
    (h1 : mS M ≤ mS M1 ∧ mU M ≤ mU M1) (h2 : mS M1 ≤ mS M2 ∧ mU M1 ≤ mU M2) (hR : Runs l G q (pc + 3) lv (v1.toList ++ rest) M1 v M2) : Runs l G q pc lv st M v M2 := by
  intro p e R s m args below meth c H locs Q ls S0 U0 hq C S hS0 hU0 hc hu hend
  obtain ⟨a, hr⟩ := hrun p e R s m args below meth c H locs ls (mS M - S0) (mU M - U0) hq C S (by omega) (by omega)
  refine run_on hr S.2.1 fun H1 locs1 hW hL => ?_
  rw [show mS M - S0 + (mS M1 - mS M) = mS M1 - S0 by omega, show mU M - U0 + (mU M1 - mU M) = mU M1 - U0 by omega]
  exact hR p e R s m args below meth c H1 locs1 Q ls S0 U0 hq C ⟨hW, hL, S.2.2⟩ (by omega) (by omega) hc hu hend
/-- a method's contract out of its run -/
theorem met_of {l : Launch} {G : GT} {q : Nat} {as : List Value} {M M2 : SM} {v : Option Value} (hq : q < 87) (ha : (entA as).length ≤ mL q) (h : Runs l G q 0 (ent q as) [] M v M2) : mMet l G q M as v M2 := by
  refine va_MetF (cc := mB q) (maxL := mL q) (ret := mRt q) (List.all_eq_true.mp plA q (List.mem_range.mpr (by omega))) rfl ?_
  intro p e s m args below meth c s₁ B hml hv
  obtain ⟨rfl, hW, hK⟩ := hv
  have hts := atoms_spec (ws := mWs q) B.pre
  have hown : s.vm.findClass (CN (ow q)) = some m.cls := by rw [← (cls_ok hq).1]; exact findClass_of_methodNamed B.named
  have hlocks := B.notSynchronized
  have hr := B.returns
  have hx := B.exec
  have hb := B.bytes
  have C : Cx G q p (headSpec (mWs q) (mRm q (mS M2 - mS M) (mU M2 - mU M))).room s m as.toArray meth c := ⟨hx, hb, hml, hown, fun w hw => hts w (List.mem_cons_of_mem _ hw), hK, fun hi => (name_of_methodNamed B.named B.method).1.trans (ini_nm hi (by omega)).1, Nat.le_refl _, Nat.le_refl _⟩
  have hl := ent_has q as ha
  rw [lg_entry_eq]
  have key := h p e _ s m as.toArray below meth c s.heap [] (MQ below (mQc G M2 v) as.toArray s (mS M2 - mS M) (mU M2 - mU M) (fun a => gB G ≤ a)) _ (mS M) (mU M) (by omega) C ⟨hW, fun x hx => (by cases hx), hl, ent_len q as ha⟩ (Nat.le_refl _) (Nat.le_refl _) (by show mS M2 ≤ mS M2 - mS M + mS M; omega) (by show mU M2 ≤ mU M2 - mU M + mU M; omega) ?_
  · rw [Nat.sub_self, Nat.sub_self] at key
    exact key
  · intro H' locs' pc' ls' i hW' hL' hri hd
    have hq' : ∀ t : State, t.heap = H' → s.WarmedH t.vm → mQc G M2 v as.toArray s (.returned v) t := fun t ht _ => ⟨rfl, by rw [ht]; exact hW'⟩
    match v, hri with
    | none, hri =>
      obtain ⟨rfl, hrt⟩ := hri
      exact W.vret hx hb (by rw [hr, hrt]) hq' hL' hd
    | some (.long x), hri =>
      obtain ⟨rfl, hrt⟩ := hri
      exact W.lret hx hb (by rw [hr, hrt]) hq' hL' hd
    | some (.int x), hri =>
      obtain ⟨rfl, hrt⟩ := hri
      unfold retOK at hrt
      split at hrt
      · rename_i hrr
        exact W.iret hx hb (by rw [hr, hrr]) hq' hL' hd
      · rename_i hrr
        refine W.zret hx hb (hr.trans hrr) ?_ hq' hL' hd
        rw [Bool.or_eq_true, beq_iff_eq, beq_iff_eq] at hrt
        rcases hrt with rfl | rfl <;> decide
      · cases hrt
theorem core (l : Launch) (G : GT) : ∀ (n q pc : Nat) (lv : List (Option Value)) (st : List Value) (M : SM) (v : Option Value) (M2 : SM), ex n q pc lv st M = some (v, M2) → mS M ≤ mS M2 ∧ mU M ≤ mU M2 ∧ Runs l G q pc lv st M v M2
  | 0, _, _, _, _, _, _, _, h => by cases h
  | n + 1, q, pc, lv, st, M, v, M2, h => by
    rw [ex] at h
    cases hd : decode (mB q) pc with
    | error _ => rw [hd] at h; cases h
    | ok x =>
      obtain ⟨i, len⟩ := x
      rw [hd] at h
      dsimp only at h
      cases hs : stq i len q pc lv st M with
      | none => rw [hs] at h; cases h
      | some r =>
        rw [hs] at h
        unfold stq at hs
        split at hs
        case isFalse => cases hs
        case isTrue hl =>
          rcases sto_spec hs with ⟨x, hx, rfl⟩ | ⟨v', hv, hst, rfl⟩ | ⟨k, q2, kd, hf, hcase⟩
          · obtain ⟨pc', lv', st', M'⟩ := x
            obtain ⟨m1, m2⟩ := mo_all hx
            obtain ⟨k1, k2, k3⟩ := core l G n q pc' lv' st' M' v M2 h
            refine ⟨Nat.le_trans m1 k1, Nat.le_trans m2 k2, fun p e R s m args below meth c H locs Q ls S0 U0 hq C S hS0 hU0 hc hu hend => ?_⟩
            exact st_all C S hq hS0 hU0 (by omega) (by omega) hd hl hx (fun H' locs' ls' S' => k3 p e R s m args below meth c H' locs' Q ls' S0 U0 hq C S' (by omega) (by omega) hc hu hend)
          · have e : v' = v ∧ M = M2 := by have := Option.some.inj (show some (v', M) = some (v, M2) from h); exact ⟨congrArg Prod.fst this, congrArg Prod.snd this⟩
            obtain ⟨rfl, rfl⟩ := e
            refine ⟨Nat.le_refl _, Nat.le_refl _, fun p e R s m args below meth c H locs Q ls S0 U0 hq C S hS0 hU0 hc hu hend => ?_⟩
            have hlen : len = 1 := by
              match v', hv with
              | none, hv => rw [hv.1] at hl; exact len1 hl rfl
              | some (.int _), hv => rw [hv.1] at hl; exact len1 hl rfl
              | some (.long _), hv => rw [hv.1] at hl; exact len1 hl rfl
            subst hlen
            rw [hst]
            exact hend H locs pc ls i S.1 S.2.1 hv hd
          · have h2 := cal_lt hf
            rcases hcase with ⟨rfl, hcall⟩ | ⟨rfl, hcall⟩ | ⟨rfl, hcall⟩
            · obtain rfl : len = 3 := len1 hl rfl
              obtain ⟨a, as, rest, rfl, hkd, hn, hco, hk, rfl⟩ := doV_spec hcall
              obtain ⟨c1, c2, c3⟩ := callOK_spec hco
              simp only [hdl] at h
              cases hx : ex n q2 0 (ent q2 (.ref a :: as)) [] M with
              | none => rw [hx] at h; cases h
              | some y =>
                obtain ⟨v1, M1⟩ := y
                rw [hx] at h
                obtain ⟨a1, a2, a3⟩ := core l G n q2 0 _ [] M v1 M1 hx
                obtain ⟨b1, b2, b3⟩ := core l G n q (pc + 3) lv _ M1 v M2 h
                refine ⟨Nat.le_trans a1 b1, Nat.le_trans a2 b2, runs_call (rest := rest) ?_ ⟨a1, a2⟩ ⟨b1, b2⟩ b3⟩
                intro p e R s m args below meth c H locs ls cells slots hq C S hcells hslots
                exact ⟨_, call_V C S (met_of h2 c1 a3) hf hkd hn c2 c3 hk hcells hslots hd⟩
            · obtain rfl : len = 3 := len1 hl rfl
              obtain ⟨as, rest, rfl, hkd, hn, hco, rfl⟩ := doS_spec hcall
              obtain ⟨c1, c2, c3⟩ := callOK_spec hco
              simp only [hdl] at h
              cases hx : ex n q2 0 (ent q2 as) [] M with
              | none => rw [hx] at h; cases h
              | some y =>
                obtain ⟨v1, M1⟩ := y
                rw [hx] at h
                obtain ⟨a1, a2, a3⟩ := core l G n q2 0 _ [] M v1 M1 hx
                obtain ⟨b1, b2, b3⟩ := core l G n q (pc + 3) lv _ M1 v M2 h
                refine ⟨Nat.le_trans a1 b1, Nat.le_trans a2 b2, runs_call (rest := rest) ?_ ⟨a1, a2⟩ ⟨b1, b2⟩ b3⟩
                intro p e R s m args below meth c H locs ls cells slots hq C S hcells hslots
                exact ⟨_, call_S C S (met_of h2 c1 a3) hf hkd hn c2 c3 hcells hslots hd⟩
            · obtain rfl : len = 3 := len1 hl rfl
              obtain ⟨a, as, rest, rfl, hkd, hn, hco, rfl⟩ := doI_spec hcall
              obtain ⟨c1, c2, c3⟩ := callOK_spec hco
              simp only [hdl] at h
              cases hx : ex n q2 0 (ent q2 (.ref a :: as)) [] M with
              | none => rw [hx] at h; cases h
              | some y =>
                obtain ⟨v1, M1⟩ := y
                rw [hx] at h
                obtain ⟨a1, a2, a3⟩ := core l G n q2 0 _ [] M v1 M1 hx
                obtain ⟨b1, b2, b3⟩ := core l G n q (pc + 3) lv _ M1 v M2 h
                refine ⟨Nat.le_trans a1 b1, Nat.le_trans a2 b2, runs_call (rest := rest) ?_ ⟨a1, a2⟩ ⟨b1, b2⟩ b3⟩
                intro p e R s m args below meth c H locs ls cells slots hq C S hcells hslots
                exact ⟨_, call_I C S (met_of h2 c1 a3) hf hkd hn c2 c3 hcells hslots hd⟩
