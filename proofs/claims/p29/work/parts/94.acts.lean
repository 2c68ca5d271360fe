/-! acts of the law: what they have in common -/
theorem b3_xor_s {x : Int64} {k : Nat} (hx : w12 x) (hk : k < 12) : s32 x ^^^ e3 k = s32 (x ^^^ bE k) := by
  apply s32_of
  intro i hi
  rw [b3_xor, b3_w hx, b3_e3 (by omega), bt_xor, bt_bE (by omega)]
  cases hb : bt x i with
  | true => have := hx i hb; simp [this]
  | false =>
    by_cases q : i = k
    · subst q; simp [hk]
    · simp [q]
theorem w12_xor {x : Int64} {k : Nat} (hx : w12 x) (hk : k < 12) : w12 (x ^^^ bE k) := fun i hi => by
  rw [bt_xor, bt_bE (by omega)] at hi
  cases hb : bt x i with
  | true => exact hx i hb
  | false =>
    rw [hb] at hi
    simp at hi
    omega
theorem R9.new {M N : SM} {S sb L n R n' R' : Nat} (h : R9 M S sb L n R) (e : N.2.2 = M.2.2) (h2 : HistC N S) (h3 : ∃ w, SR N (S + 1) w n' R') (h6 : n' ≤ 12) (h7 : R' ≤ 1000)
    (h8 : EnS (mI N (S + 1 + 1 + 1)) (mI N (S + 1 + 1 + 2)) (mI N (S + 1 + 1 + 3)) n') (h9 : Six (mI N (S + 1 + 7 + 5))) (h10 : QR (mI N (S + 148)) n' R' (mJ N (S + 1 + 1) 1))
    (h11 : EnR (mI N (S + 149)) (mI N (S + 1 + 1 + 1)) (mI N (S + 1 + 1 + 2)) (mI N (S + 1 + 1 + 3)) (mI N (S + 1 + 7 + 1)) (mI N (S + 1 + 7 + 2)) n') (h12 : DeR (mI N (S + 150)) (mJ N (S + 1 + 1 + 4)) n') (h13 : TrR (mI N (S + 151)) (mI N (S + 1 + 7 + 4)) (mI N (S + 1 + 7 + 5))) : R9 N S sb L n' R' := by
  have eS : mS N = mS M := congrArg (fun z => z.2.2.1) e
  refine ⟨h.1.st e, h2, h3, ⟨h.2.2.2.1.1, by rw [KK e]; exact h.2.2.2.1.2⟩, ?_, h6, h7, h8, h9, h10, h11, h12, h13⟩
  rw [KK e, eS]
  exact h.2.2.2.2.1
/-- memory of the class behind a change, law's arrays as before -/
theorem aft_rows {M M1 M2 M3 : SM} {S : Nat} (p : Fr M M1 (S + 16) (S + 107)) (q : Fr M1 M2 (S + 2) (S + 14)) (a : Aft M M2 M3 S) : (∀ b, S + 107 ≤ b → Same M M3 b) ∧ (∀ b, b < S + 14 → Same M2 M3 b) ∧ (∀ b, b < S + 14 → Same M M1 b) := by
  refine ⟨fun b hb => ?_, fun b hb => a.2.1 b (by omega), fun b hb => p.2 b (by omega)⟩
  have x := p.2 b (by omega)
  have y := q.2 b (by omega)
  have z := a.2.1 b (by omega)
  exact ⟨(z.1.trans y.1).trans x.1, (z.2.trans y.2).trans x.2⟩
theorem SR_same {M N : SM} {s n R : Nat} {w : Nat → Int32} (h : SR M s w n R) (e : ∀ b, s ≤ b → b < s + 13 → Same M N b) : SR N s w n R := SR_eq h (fun b b1 b2 => e b (by omega) b2)
theorem itR_loc0 {M N : SM} {r h n : Nat} (hd : h + 6 ≤ r) (e : ∀ b, b < r + 6 → Same M N b) : ∀ i, rdM (itR N r h n i) r h n = rdM (itR M r h n i) r h n ∧ ∀ b, b < r + 6 → Same (itR M r h n i) (itR N r h n i) b := by
  intro i
  induction i with
  | zero => exact ⟨(mkR_loc hd e).1, e⟩
  | succ i ih =>
    have g := (mkR_loc (n := n) hd ih.2).2
    exact ⟨(mkR_loc hd g).1, g⟩
/-- the world of the law's acts -/
def X9 (N : SM) (S sb L n R m u : Nat) : Prop := R9 N S sb L n R ∧ mS N = m ∧ mU N = u
