/-! THE CLAIM OUT OF ONE WALK OF THE LAW'S BODY. Your part is whole_start (and what it stands on); all else here is the same for every law, but numbers. -/
def R_law : String := "DependentReplayLaw"
def lw_P (b : Addr) (xs : List Int32) (args : Array Value) (s : State) : Prop := args = #[.ref b] ∧ s.IntsAt b xs ∧ xs.length ≤ 260 ∧ (Jvm.Cond.and given_1 narrow_1).before args s = true
def lw_Q (_ : Array Value) (s : State) (o : Outcome) (t : State) : Prop := o = .returned (some (.int 1)) ∧ Framed s o t [] 600000 7302250
def lw_Z (below : List Frame) (a : Array Value) (s : State) : State → Prop := fun t => ∃ o, t.status = .running ∧ Ended t below o ∧ lw_Q a s o t
/-- the law's own end, with 1 on the stack, nothing written that was there before, its room as the claim has it -/
theorem lw_ret {p : Program} {l : Launch} {e : Env} {s : State} {m : MethodId} {below : List Frame} {meth : Method} {c : Code} {b : Nat} (hx : p.tables.exec = Jvm.exec) (hb : c.code = code) (hr : meth.sig.returnType = ret) (hlocks : meth.locks = false) {pc : Nat} {H : Heap} {ls : Array Slot} (hdg : decode code pc = .ok (.ireturn, 1)) : W p l e room_1 s m #[Value.ref b] below meth c H [] 600000 7302250 (lw_Z below #[Value.ref b] s) (F0 m pc ls [.int 1]) := by
  intro T hT X
  obtain ⟨fs, hret, hrun, hended, hW, hframe⟩ := X.leave (v := some (.int 1)) (hlocks := hlocks) (fun h => by rw [hr] at h; cases h)
  have hmeth' : T.vm.method? m = some meth := X.method'
  refine ⟨T.setFrames fs, ?_, .returned (some (.int 1)), hrun, hended, rfl, ⟨_, rfl⟩, hW, hframe⟩
  jvm_step X.here [X.here.top, hx, hb, hdg, hmeth', hr, ret, narrow_b1]
  (try refine ⟨rfl, ?_⟩); (try refine ⟨rfl, ?_⟩)
  first | (intro acts; rw [hret _ acts rfl rfl rfl]) | rw [hret _ _ rfl rfl rfl]
  exact Steps.refl _
/-- what holds at the law's entry: the machine, the code, the tables' words (any of lw_tbl by 'hts w (by decide +kernel)'), the script of L ints xs at the cell b, what the Statement gives of the start (any of its parts by flat_of_before) -/
def lw_At (p : Program) (s : State) (m : MethodId) (meth : Method) (c : Code) (b L : Nat) (xs : Nat → Int32) : Prop :=
  p.tables.exec = Jvm.exec ∧ c.code = code ∧ meth.sig.returnType = ret ∧ c.maxLocals = 22 ∧ s.vm.findClass R_law = some m.cls ∧ (∀ w ∈ lw_tbl, w.before #[Value.ref b] s = true) ∧ va_X b L xs s s.heap ∧ b < s.heap.size ∧ meth.locks = false ∧ (Jvm.Cond.and given_1 narrow_1).before #[Value.ref b] s = true
/-! the law's start: its memory holds the script alone -/
def M0 (b S L : Nat) (xs : Nat → Int32) : SM := (fun a => if a = b then xs else fun _ => 0, fun _ _ => 0, fun _ _ => none, fun a => if a = b then (5, L) else (0, 0), S, 0)
theorem tbl_gd {args : Array Value} {s : State} (hts : ∀ w ∈ lw_tbl, w.before args s = true) : ∀ w ∈ lw_gd, w.before args s = true := fun w hw => hts w (List.mem_filter.mp hw).1
theorem kn_start {args : Array Value} {s : State} {b L : Nat} {xs : Nat → Int32} (hts : ∀ w ∈ lw_tbl, w.before args s = true) (hX : va_X b L xs s s.heap) : ∃ (D : va_G) (ar : Nat → ClassId), Kn (D, (s.heap.size, ar), (b, L, xs, s.heap)) s := by
  have hg := tbl_gd hts
  have hk : ∀ ci, ∃ x : ClassId × (Nat → Nat), ci < nCl → u_Kn s (CN ci) (TT ci) (NN ci) x.1 x.2 := by
    intro ci
    by_cases h : ci < nCl
    · have hi := List.all_eq_true.mp insA ci (List.mem_range.mpr h)
      rw [Bool.and_eq_true] at hi
      obtain ⟨cC, iS, hkn⟩ := u_known hg (lay_in h) (hg _ (hasW_in hi.1))
      exact ⟨(cC, iS), fun _ => hkn⟩
    · exact ⟨(0, fun _ => 0), fun z => absurd z h⟩
  have ha := arcA
  rw [Bool.and_eq_true] at ha
  obtain ⟨cI, kI, compI, i1, i2, i3⟩ := Cond.arrayClass_spec (hg _ (hasW_in ha.1))
  obtain ⟨cJ, kJ, compJ, j1, j2, j3⟩ := Cond.arrayClass_spec (hg _ (hasW_in ha.2))
  have hv := aovA
  simp only [Bool.and_eq_true, decide_eq_true_eq] at hv
  have ho3 := hts _ (List.mem_of_getElem? hv.1.1.1)
  have ho4 := hts _ (List.mem_of_getElem? hv.1.1.2)
  obtain ⟨comp3, c3, k3, r1, r2, r3, r4, r5⟩ := Cond.arrayOver_spec ho3
  obtain ⟨comp4, c4, k4, q1, q2, q3, q4, q5⟩ := Cond.arrayOver_spec ho4
  refine ⟨(fun ci => (Classical.choose (hk ci)).1, fun ci => (Classical.choose (hk ci)).2), fun k => if k = 1 then cI else if k = 2 then cJ else if k = 3 then c3 else c4, ⟨fun c q hq => ?_, fun k q h => by simp at h⟩, fun k h1 h2 => ?_, hX, fun e he ho => ?_, va_AO.of ho3, va_AO.of ho4⟩
  · have hc : c < nCl := by
      have := (List.getElem?_eq_some_iff.mp hq).1
      exact this
    have := cls_at c hc
    rw [this] at hq
    cases hq
    exact Classical.choose_spec (hk c) hc
  · match k, h1, h2 with
    | 1, _, _ => exact ⟨fun n z => ⟨fun k h => (by cases h), kI, i2, compI, i3⟩, i1⟩
    | 2, _, _ => exact ⟨fun n z => ⟨fun k h => (by cases h), kJ, j2, compJ, j3⟩, j1⟩
    | 3, _, _ => exact ⟨fun n z => ⟨fun k h => (by cases h), k3, r3, comp3, r4⟩, k3, comp3, r3, r4, r1, r5⟩
    | 4, _, _ => exact ⟨fun n z => ⟨fun k h => (by cases h), k4, q3, comp4, q4⟩, k4, comp4, q3, q4, q1, q5⟩
  · have h := List.all_eq_true.mp nstA e he
    rw [Bool.or_eq_true, beq_iff_eq, decide_eq_true_eq] at h
    exact va_Nw.of rfl (hts _ (List.mem_of_getElem? (h.resolve_left (by omega))))
set_option maxRecDepth 100000 in
theorem start_of {p : Program} {e : Env} {s : State} {m : MethodId} {below : List Frame} {meth : Method} {c : Code} (l : Launch) {b L : Nat} {xs : Nat → Int32} (C0 : lw_At p s m meth c b L xs)
    (hp : ∃ M2 : SM, cl 87 [.ref b] (M0 b s.heap.size L xs) = some (some (.int 1), M2) ∧ mS M2 ≤ 600000 + s.heap.size ∧ mU M2 ≤ 7302250) :
    W p l e room_1 s m #[Value.ref b] below meth c s.heap [] 0 0 (lw_Z below #[Value.ref b] s) (entryFrame m ([Value.ref b] : List Value).toArray 22) := by
  obtain ⟨hx, hb, hr, hml, hown, hts, hX, hbl, hlocks, hgv⟩ := id C0
  obtain ⟨D, ar, hK⟩ := kn_start hts hX
  obtain ⟨M2, hcl, hS, hU⟩ := hp
  obtain ⟨n, hn⟩ := rn_iff.mp hcl
  obtain ⟨m1, m2, hR⟩ := core l (D, (s.heap.size, ar), (b, L, xs, s.heap)) n _ _ _ _ _ _ _ hn
  have hl := ent_has 87 [.ref b] (Nat.le_of_ble_eq_true rfl)
  rw [lg_entry_eq]
  have hW : Wld (D, (s.heap.size, ar), (b, L, xs, s.heap)) (M0 b s.heap.size L xs) s.heap := by
    refine ⟨rfl, Nat.le_refl _, hbl, fun a => ?_⟩
    by_cases hab : a = b
    · subst hab
      have hk : mK (M0 a s.heap.size L xs) a = (5, L) := if_pos rfl
      refine ⟨fun _ => ⟨rfl, by rw [hk]; rfl, if_pos rfl, rfl⟩, fun k h1 h2 h3 => ?_, fun ci h1 h2 => ?_⟩
      · rw [hk] at h1; simp at h1; omega
      · rw [hk] at h2; simp at h2; omega
    · have hk : mK (M0 b s.heap.size L xs) a = (0, 0) := if_neg hab
      refine ⟨fun h => ?_, fun k h1 h2 h3 => ?_, fun ci h1 h2 => ?_⟩
      · rw [hk] at h; simp at h
      · rw [hk] at h1; simp at h1; omega
      · rw [hk] at h2; simp at h2; omega
  have C : Cx (D, (s.heap.size, ar), (b, L, xs, s.heap)) 87 p room_1 s m #[Value.ref b] meth c := ⟨hx, hb, hml, hown, tbl_gd hts, hK, fun h => (by cases h), Nat.le_of_ble_eq_true rfl, Nat.le_of_ble_eq_true rfl⟩
  have key := hR p e room_1 s m #[Value.ref b] below meth c s.heap [] (lw_Z below #[Value.ref b] s) _ s.heap.size 0 (Nat.le_of_ble_eq_true rfl) C ⟨hW, fun x hx => (by cases hx), hl, ent_len 87 [.ref b] (Nat.le_of_ble_eq_true rfl)⟩ (Nat.le_refl _) (Nat.le_refl _) hS hU ?_
  · rw [show mS (M0 b s.heap.size L xs) = s.heap.size from rfl, Nat.sub_self] at key
    exact key
  · intro H' locs' pc' ls' i hW' hL' hri hd
    obtain ⟨rfl, -⟩ := hri
    refine W.widen (k := 600000) (n := 7302250) (by omega) (by omega) ?_
    refine va_forget hL' ?_
    exact lw_ret hx hb hr hlocks hd
