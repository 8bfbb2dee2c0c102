/-! set, drop -/
theorem lane_or {x : Int32} (h : lane x) : x = -1 ∨ ∃ l, l ≤ 2 ∧ x = n32 l := by
  rcases h with h | h | h | h
  · exact Or.inl h
  · exact Or.inr ⟨0, by omega, h⟩
  · exact Or.inr ⟨1, by omega, h⟩
  · exact Or.inr ⟨2, by omega, h⟩
theorem lane_of {l : Nat} (h : l ≤ 2) : lane (n32 l) := by
  rcases (show l = 0 ∨ l = 1 ∨ l = 2 by omega) with rfl | rfl | rfl
  · exact Or.inr (Or.inl rfl)
  · exact Or.inr (Or.inr (Or.inl rfl))
  · exact Or.inr (Or.inr (Or.inr rfl))
theorem neg1_le0 : (n32 0 ≤ (-1 : Int32)) = False := eq_false (by decide)
theorem neg1_lt0 : ((-1 : Int32) < n32 0) = True := eq_true (by decide)
theorem n32_ne1 {l : Nat} (h : l < 2147483648) : (n32 l = -1) = False := by
  refine eq_false (fun z => ?_)
  have := neg_ne (x := -1) (by decide) h
  rw [z] at this
  exact absurd rfl (of_eq_false this)
theorem n32_ne1' {l : Nat} (h : l < 2147483648) : (n32 l = -n32 1) = False := n32_ne1 h
/-- where a row is missing on both sides, or there -/
theorem t_missing {w m5 : Mem} (hR : RRows (w 3) (w 4) (w 5) m5) {p : Nat} (hp : p < 8) : (w 3 p = -1 ∧ m5 1 p = -1 ∧ f_X6_isMissing m5 (n32 p) = some (n32 1)) ∨ (∃ l, l ≤ 2 ∧ w 3 p = n32 l ∧ m5 1 p = n32 l ∧ f_X6_isMissing m5 (n32 p) = some (n32 0)) := by
  obtain ⟨g1, g2, -, -⟩ := hR p hp
  unfold f_X6_isMissing
  rcases lane_or g1 with h | ⟨l, hl, h⟩
  · refine Or.inl ⟨h, by rw [g2, h], ?_⟩
    rw [n32_nat (by omega), g2, h]
    simp (disch := omega) only [n32_lit, n32_add, n32_mul, n32_lt, n32_le, n32_eq, n32_nat, n32_inb, gd_dec, gd_one, nm_eq, jn_eq, Option.bind_some, Nat.reduceAdd, Nat.reduceMul, Nat.reduceSub, Nat.reduceLT, Nat.reduceLeDiff, Nat.reduceEqDiff, ↓reduceIte, decide_true, decide_false, and_true, true_and, and_false, false_and, or_false, false_or, or_true, true_or, not_true_eq_false, not_false_eq_true, eq_self, Nat.zero_add, Nat.add_zero, Nat.mul_zero, Nat.mul_one, Nat.zero_le, Nat.not_lt_zero, bind_sm, bind_sm2, hp]
  · refine Or.inr ⟨l, hl, h, by rw [g2, h], ?_⟩
    rw [n32_nat (by omega), g2, h]
    simp (disch := omega) only [n32_lit, n32_add, n32_mul, n32_lt, n32_le, n32_eq, n32_nat, n32_inb, gd_dec, gd_one, nm_eq, jn_eq, Option.bind_some, Nat.reduceAdd, Nat.reduceMul, Nat.reduceSub, Nat.reduceLT, Nat.reduceLeDiff, Nat.reduceEqDiff, ↓reduceIte, decide_true, decide_false, and_true, true_and, and_false, false_and, or_false, false_or, or_true, true_or, not_true_eq_false, not_false_eq_true, eq_self, Nat.zero_add, Nat.add_zero, Nat.mul_zero, Nat.mul_one, Nat.zero_le, Nat.not_lt_zero, bind_sm, bind_sm2, hp, n32_ne1']
theorem t_stretch1 {m5 : Mem} {p k : Nat} (hp : p < 8) (hk : k ≤ 40) (e : m5 2 p = n32 k) (x : Int32) : (∃ i, i < k ∧ x = n32 i ∧ f_X8_in x.toInt64 0 (n32 k - 1).toInt64 = some (n32 1) ∧ f_X6_hasStretch m5 (n32 p) x (n32 1) = some (n32 1)) ∨ (f_X8_in x.toInt64 0 (n32 k - 1).toInt64 = some (n32 0) ∧ f_X6_hasStretch m5 (n32 p) x (n32 1) = some (n32 0)) := by
  unfold f_X6_hasStretch
  rcases b_in x (k := k) (by omega) with ⟨i, a, b, c, d, f⟩ | ⟨c, d⟩
  · subst b
    refine Or.inl ⟨i, a, rfl, c, ?_⟩
    have h1 : ¬ k < i := by omega
    have h2 : ¬ k - i < 1 := by omega
    simp (disch := omega) only [n32_lit, n32_add, n32_mul, n32_lt, n32_le, n32_eq, n32_nat, n32_inb, gd_dec, gd_one, nm_eq, jn_eq, Option.bind_some, Nat.reduceAdd, Nat.reduceMul, Nat.reduceSub, Nat.reduceLT, Nat.reduceLeDiff, Nat.reduceEqDiff, ↓reduceIte, decide_true, decide_false, and_true, true_and, and_false, false_and, or_false, false_or, or_true, true_or, not_true_eq_false, not_false_eq_true, eq_self, Nat.zero_add, Nat.add_zero, Nat.mul_zero, Nat.mul_one, Nat.zero_le, Nat.not_lt_zero, bind_sm, bind_sm2, d, hp, e, h1, n32_sub (show i ≤ k by omega), h2]
  · refine Or.inr ⟨c, ?_⟩
    rcases d with d | ⟨d, d'⟩
    · simp (disch := omega) only [n32_lit, n32_add, n32_mul, n32_lt, n32_le, n32_eq, n32_nat, n32_inb, gd_dec, gd_one, nm_eq, jn_eq, Option.bind_some, Nat.reduceAdd, Nat.reduceMul, Nat.reduceSub, Nat.reduceLT, Nat.reduceLeDiff, Nat.reduceEqDiff, ↓reduceIte, decide_true, decide_false, and_true, true_and, and_false, false_and, or_false, false_or, or_true, true_or, not_true_eq_false, not_false_eq_true, eq_self, Nat.zero_add, Nat.add_zero, Nat.mul_zero, Nat.mul_one, Nat.zero_le, Nat.not_lt_zero, bind_sm, bind_sm2, d]
    · rcases n32_or x with ⟨i, hi, rfl⟩ | h
      · rw [n32_le (by omega) hi] at d'
        simp (disch := omega) only [n32_lit, n32_add, n32_mul, n32_lt, n32_le, n32_eq, n32_nat, n32_inb, gd_dec, gd_one, nm_eq, jn_eq, Option.bind_some, Nat.reduceAdd, Nat.reduceMul, Nat.reduceSub, Nat.reduceLT, Nat.reduceLeDiff, Nat.reduceEqDiff, ↓reduceIte, decide_true, decide_false, and_true, true_and, and_false, false_and, or_false, false_or, or_true, true_or, not_true_eq_false, not_false_eq_true, eq_self, Nat.zero_add, Nat.add_zero, Nat.mul_zero, Nat.mul_one, Nat.zero_le, Nat.not_lt_zero, bind_sm, bind_sm2, hp, e]
        by_cases h1 : k < i
        · simp (disch := omega) only [n32_lit, n32_add, n32_mul, n32_lt, n32_le, n32_eq, n32_nat, n32_inb, gd_dec, gd_one, nm_eq, jn_eq, Option.bind_some, Nat.reduceAdd, Nat.reduceMul, Nat.reduceSub, Nat.reduceLT, Nat.reduceLeDiff, Nat.reduceEqDiff, ↓reduceIte, decide_true, decide_false, and_true, true_and, and_false, false_and, or_false, false_or, or_true, true_or, not_true_eq_false, not_false_eq_true, eq_self, Nat.zero_add, Nat.add_zero, Nat.mul_zero, Nat.mul_one, Nat.zero_le, Nat.not_lt_zero, bind_sm, bind_sm2, h1]
        · have h2 : i = k := by omega
          subst h2
          simp (disch := omega) only [n32_lit, n32_add, n32_mul, n32_lt, n32_le, n32_eq, n32_nat, n32_inb, gd_dec, gd_one, nm_eq, jn_eq, Option.bind_some, Nat.reduceAdd, Nat.reduceMul, Nat.reduceSub, Nat.reduceLT, Nat.reduceLeDiff, Nat.reduceEqDiff, ↓reduceIte, decide_true, decide_false, and_true, true_and, and_false, false_and, or_false, false_or, or_true, true_or, not_true_eq_false, not_false_eq_true, eq_self, Nat.zero_add, Nat.add_zero, Nat.mul_zero, Nat.mul_one, Nat.zero_le, Nat.not_lt_zero, bind_sm, bind_sm2, h1, n32_sub (Nat.le_refl i), Nat.sub_self]
      · have h' : (x < n32 0) = True := eq_true h
        simp (disch := omega) only [n32_lit, n32_add, n32_mul, n32_lt, n32_le, n32_eq, n32_nat, n32_inb, gd_dec, gd_one, nm_eq, jn_eq, Option.bind_some, Nat.reduceAdd, Nat.reduceMul, Nat.reduceSub, Nat.reduceLT, Nat.reduceLeDiff, Nat.reduceEqDiff, ↓reduceIte, decide_true, decide_false, and_true, true_and, and_false, false_and, or_false, false_or, or_true, true_or, not_true_eq_false, not_false_eq_true, eq_self, Nat.zero_add, Nat.add_zero, Nat.mul_zero, Nat.mul_one, Nat.zero_le, Nat.not_lt_zero, bind_sm, bind_sm2, h']
theorem s_set {m0 m5 m11 : Mem} (hR : RRows ((up m0 0 0 0) 3) ((up m0 0 0 0) 4) ((up m0 0 0 0) 5) m5) (hS : RSt ((up m0 0 0 0) 0 1) m11) (x y z : Int32) : RowStep (f_X7_set m5 m11 x y z) (f_X8_set m0 x y z) (up m0 0 0 0) := by
  unfold f_X7_set f_X8_set
  rw [nm_eq]
  generalize hw : up m0 0 0 0 = w at *
  rcases b_row x with ⟨p, hp, rfl, e1, e2⟩ | ⟨e1, e2⟩
  · rw [e1, e2]
    obtain ⟨g1, g2, ⟨k, g3, g4, g5⟩, g6⟩ := hR p hp
    rcases t_missing hR hp with ⟨l1, l2, l3⟩ | ⟨l, hl, l1, l2, l3⟩
    · rw [l3]
      unfold f_X7_found f_X8_finding
      simp (disch := omega) only [n32_lit, n32_add, n32_mul, n32_lt, n32_le, n32_eq, n32_nat, n32_inb, gd_dec, gd_one, nm_eq, jn_eq, Option.bind_some, Nat.reduceAdd, Nat.reduceMul, Nat.reduceSub, Nat.reduceLT, Nat.reduceLeDiff, Nat.reduceEqDiff, ↓reduceIte, decide_true, decide_false, and_true, true_and, and_false, false_and, or_false, false_or, or_true, true_or, not_true_eq_false, not_false_eq_true, eq_self, Nat.zero_add, Nat.add_zero, Nat.mul_zero, Nat.mul_one, Nat.zero_le, Nat.not_lt_zero, bind_sm, bind_sm2, up_at, up_ms, up_mi, upA_at, upA_ms, hp, l1, neg1_le0, up_up]
      exact RowStep.found hR hS _ _
    · rw [l3]
      simp (disch := omega) only [n32_lit, n32_add, n32_mul, n32_lt, n32_le, n32_eq, n32_nat, n32_inb, gd_dec, gd_one, nm_eq, jn_eq, Option.bind_some, Nat.reduceAdd, Nat.reduceMul, Nat.reduceSub, Nat.reduceLT, Nat.reduceLeDiff, Nat.reduceEqDiff, ↓reduceIte, decide_true, decide_false, and_true, true_and, and_false, false_and, or_false, false_or, or_true, true_or, not_true_eq_false, not_false_eq_true, eq_self, Nat.zero_add, Nat.add_zero, Nat.mul_zero, Nat.mul_one, Nat.zero_le, Nat.not_lt_zero, bind_sm, bind_sm2, up_at, up_ms, up_mi, upA_at, upA_ms, hp, l1, g4]
      rcases t_stretch1 hp g3 g5 y with ⟨i, hi, rfl, e3, e4⟩ | ⟨e3, e4⟩
      · rw [n32_lit 1] at e3
        have key : ∀ val : Int32, f_X6_inLane (n32 l) z = some val → RowStep ((f_X6_put m5 (n32 p) (n32 i) z).bind (fun r14 => ((f_X7_fine m11 r14.1).bind (fun r15 => (some (r15.1, r14.2, r15.2)))))) (some (val, up (up w 0 1 (n32 0)) 5 (40 * p + i) val)) w := by
          intro val hval
          unfold f_X6_put f_X7_fine
          simp (disch := omega) only [n32_lit, n32_add, n32_mul, n32_lt, n32_le, n32_eq, n32_nat, n32_inb, gd_dec, gd_one, nm_eq, jn_eq, Option.bind_some, Nat.reduceAdd, Nat.reduceMul, Nat.reduceSub, Nat.reduceLT, Nat.reduceLeDiff, Nat.reduceEqDiff, ↓reduceIte, decide_true, decide_false, and_true, true_and, and_false, false_and, or_false, false_or, or_true, true_or, not_true_eq_false, not_false_eq_true, eq_self, Nat.zero_add, Nat.add_zero, Nat.mul_zero, Nat.mul_one, Nat.zero_le, Nat.not_lt_zero, bind_sm, bind_sm2, up_at, up_ms, up_mi, upA_at, upA_ms, hp, l2, hval, show i < 40 by omega]
          refine ⟨_, _, _, _, rfl, rfl, ?_, ?_, ?_⟩
          · exact (Fr.refl.up 0 1 _ (Or.inr (Or.inr (Or.inr ⟨rfl, rfl⟩)))).up 5 _ _ (Or.inr (Or.inr (Or.inl rfl)))
          · intro r hr
            obtain ⟨g1, g2, ⟨k', g3, g4, g5⟩, g6⟩ := hR r hr
            simp (disch := omega) only [up_at, up_ms, up_mi, upA_at, upA_ms]
            refine ⟨g1, g2, ⟨k', g3, g4, g5⟩, ?_⟩
            intro j hj
            by_cases hrp : r = p
            · subst hrp
              by_cases hji : j = i
              · subst hji
                simp (disch := omega) only [up_at, up_ms, up_mi, upA_at, upA_ms]
              · simp (disch := omega) only [up_at, up_ms, up_mi, upA_at, upA_ms]
                exact g6 j hj
            · simp (disch := omega) only [up_at, up_ms, up_mi, upA_at, upA_ms]
              exact g6 j hj
          · simp (disch := omega) only [up_at, up_ms, up_mi, upA_at, upA_ms]
            exact hS.set _
        simp (disch := omega) only [n32_lit, n32_add, n32_mul, n32_lt, n32_le, n32_eq, n32_nat, n32_inb, gd_dec, gd_one, nm_eq, jn_eq, Option.bind_some, Nat.reduceAdd, Nat.reduceMul, Nat.reduceSub, Nat.reduceLT, Nat.reduceLeDiff, Nat.reduceEqDiff, ↓reduceIte, decide_true, decide_false, and_true, true_and, and_false, false_and, or_false, false_or, or_true, true_or, not_true_eq_false, not_false_eq_true, eq_self, Nat.zero_add, Nat.add_zero, Nat.mul_zero, Nat.mul_one, Nat.zero_le, Nat.not_lt_zero, bind_sm, bind_sm2, e3, e4]
        rcases (show l = 0 ∨ l = 1 ∨ l = 2 by omega) with rfl | rfl | rfl
        · have := key z.toInt8.toInt32 (by unfold f_X6_inLane; rfl)
          simp (disch := omega) only [n32_lit, n32_add, n32_mul, n32_lt, n32_le, n32_eq, n32_nat, n32_inb, gd_dec, gd_one, nm_eq, jn_eq, Option.bind_some, Nat.reduceAdd, Nat.reduceMul, Nat.reduceSub, Nat.reduceLT, Nat.reduceLeDiff, Nat.reduceEqDiff, ↓reduceIte, decide_true, decide_false, and_true, true_and, and_false, false_and, or_false, false_or, or_true, true_or, not_true_eq_false, not_false_eq_true, eq_self, Nat.zero_add, Nat.add_zero, Nat.mul_zero, Nat.mul_one, Nat.zero_le, Nat.not_lt_zero, bind_sm, bind_sm2, up_at, up_ms, up_mi, upA_at, upA_ms, hp, show 40 * p + i < 320 by omega]
          exact this
        · have := key z.toInt16.toInt32 (by unfold f_X6_inLane; rfl)
          simp (disch := omega) only [n32_lit, n32_add, n32_mul, n32_lt, n32_le, n32_eq, n32_nat, n32_inb, gd_dec, gd_one, nm_eq, jn_eq, Option.bind_some, Nat.reduceAdd, Nat.reduceMul, Nat.reduceSub, Nat.reduceLT, Nat.reduceLeDiff, Nat.reduceEqDiff, ↓reduceIte, decide_true, decide_false, and_true, true_and, and_false, false_and, or_false, false_or, or_true, true_or, not_true_eq_false, not_false_eq_true, eq_self, Nat.zero_add, Nat.add_zero, Nat.mul_zero, Nat.mul_one, Nat.zero_le, Nat.not_lt_zero, bind_sm, bind_sm2, up_at, up_ms, up_mi, upA_at, upA_ms, hp, show 40 * p + i < 320 by omega]
          exact this
        · have := key z (by unfold f_X6_inLane; rfl)
          simp (disch := omega) only [n32_lit, n32_add, n32_mul, n32_lt, n32_le, n32_eq, n32_nat, n32_inb, gd_dec, gd_one, nm_eq, jn_eq, Option.bind_some, Nat.reduceAdd, Nat.reduceMul, Nat.reduceSub, Nat.reduceLT, Nat.reduceLeDiff, Nat.reduceEqDiff, ↓reduceIte, decide_true, decide_false, and_true, true_and, and_false, false_and, or_false, false_or, or_true, true_or, not_true_eq_false, not_false_eq_true, eq_self, Nat.zero_add, Nat.add_zero, Nat.mul_zero, Nat.mul_one, Nat.zero_le, Nat.not_lt_zero, bind_sm, bind_sm2, up_at, up_ms, up_mi, upA_at, upA_ms, hp, show 40 * p + i < 320 by omega]
          exact this
      · rw [n32_lit 1] at e3
        unfold f_X7_found f_X8_finding
        simp (disch := omega) only [n32_lit, n32_add, n32_mul, n32_lt, n32_le, n32_eq, n32_nat, n32_inb, gd_dec, gd_one, nm_eq, jn_eq, Option.bind_some, Nat.reduceAdd, Nat.reduceMul, Nat.reduceSub, Nat.reduceLT, Nat.reduceLeDiff, Nat.reduceEqDiff, ↓reduceIte, decide_true, decide_false, and_true, true_and, and_false, false_and, or_false, false_or, or_true, true_or, not_true_eq_false, not_false_eq_true, eq_self, Nat.zero_add, Nat.add_zero, Nat.mul_zero, Nat.mul_one, Nat.zero_le, Nat.not_lt_zero, bind_sm, bind_sm2, up_at, up_ms, up_mi, upA_at, upA_ms, e3, e4, up_up]
        exact RowStep.found hR hS _ _
  · rw [e1, e2]
    simp (disch := omega) only [n32_lit, n32_add, n32_mul, n32_lt, n32_le, n32_eq, n32_nat, n32_inb, gd_dec, gd_one, nm_eq, jn_eq, Option.bind_some, Nat.reduceAdd, Nat.reduceMul, Nat.reduceSub, Nat.reduceLT, Nat.reduceLeDiff, Nat.reduceEqDiff, ↓reduceIte, decide_true, decide_false, and_true, true_and, and_false, false_and, or_false, false_or, or_true, true_or, not_true_eq_false, not_false_eq_true, eq_self, Nat.zero_add, Nat.add_zero, Nat.mul_zero, Nat.mul_one, Nat.zero_le, Nat.not_lt_zero, bind_sm, bind_sm2]
    exact RowStep.none hR hS _
theorem s_drop {m0 m5 m11 : Mem} (hR : RRows ((up m0 0 0 0) 3) ((up m0 0 0 0) 4) ((up m0 0 0 0) 5) m5) (hS : RSt ((up m0 0 0 0) 0 1) m11) (x : Int32) : RowStep (f_X7_drop m5 m11 x) (f_X8_drop m0 x) (up m0 0 0 0) := by
  unfold f_X7_drop f_X8_drop
  rw [nm_eq]
  generalize hw : up m0 0 0 0 = w at *
  rcases b_row x with ⟨p, hp, rfl, e1, e2⟩ | ⟨e1, e2⟩
  · rw [e1, e2]
    obtain ⟨g1, g2, ⟨k, g3, g4, g5⟩, g6⟩ := hR p hp
    rcases t_missing hR hp with ⟨l1, l2, l3⟩ | ⟨l, hl, l1, l2, l3⟩
    · rw [l3]
      unfold f_X7_found f_X8_finding
      simp (disch := omega) only [n32_lit, n32_add, n32_mul, n32_lt, n32_le, n32_eq, n32_nat, n32_inb, gd_dec, gd_one, nm_eq, jn_eq, Option.bind_some, Nat.reduceAdd, Nat.reduceMul, Nat.reduceSub, Nat.reduceLT, Nat.reduceLeDiff, Nat.reduceEqDiff, ↓reduceIte, decide_true, decide_false, and_true, true_and, and_false, false_and, or_false, false_or, or_true, true_or, not_true_eq_false, not_false_eq_true, eq_self, Nat.zero_add, Nat.add_zero, Nat.mul_zero, Nat.mul_one, Nat.zero_le, Nat.not_lt_zero, bind_sm, bind_sm2, up_at, up_ms, up_mi, upA_at, upA_ms, hp, l1, neg1_le0, up_up]
      exact RowStep.found hR hS _ _
    · rw [l3]
      unfold f_X6_takeAway f_X7_fine
      simp (disch := omega) only [n32_lit, n32_add, n32_mul, n32_lt, n32_le, n32_eq, n32_nat, n32_inb, gd_dec, gd_one, nm_eq, jn_eq, Option.bind_some, Nat.reduceAdd, Nat.reduceMul, Nat.reduceSub, Nat.reduceLT, Nat.reduceLeDiff, Nat.reduceEqDiff, ↓reduceIte, decide_true, decide_false, and_true, true_and, and_false, false_and, or_false, false_or, or_true, true_or, not_true_eq_false, not_false_eq_true, eq_self, Nat.zero_add, Nat.add_zero, Nat.mul_zero, Nat.mul_one, Nat.zero_le, Nat.not_lt_zero, bind_sm, bind_sm2, up_at, up_ms, up_mi, upA_at, upA_ms, hp, l1, g4, g5]
      refine ⟨_, _, _, _, rfl, rfl, ?_, ?_, ?_⟩
      · exact (Fr.refl.up 0 1 _ (Or.inr (Or.inr (Or.inr ⟨rfl, rfl⟩)))).up 3 _ _ (Or.inl rfl)
      · intro r hr
        obtain ⟨g1, g2, ⟨k', g3, g4, g5⟩, g6⟩ := hR r hr
        by_cases hrp : r = p
        · subst hrp
          simp (disch := omega) only [up_at, up_ms, up_mi, upA_at, upA_ms]
          exact ⟨Or.inl rfl, trivial, ⟨_, g3, by assumption, by assumption⟩, g6⟩
        · simp (disch := omega) only [up_at, up_ms, up_mi, upA_at, upA_ms]
          exact ⟨g1, g2, ⟨k', g3, g4, g5⟩, g6⟩
      · simp (disch := omega) only [up_at, up_ms, up_mi, upA_at, upA_ms]
        exact hS.set _
  · rw [e1, e2]
    simp (disch := omega) only [n32_lit, n32_add, n32_mul, n32_lt, n32_le, n32_eq, n32_nat, n32_inb, gd_dec, gd_one, nm_eq, jn_eq, Option.bind_some, Nat.reduceAdd, Nat.reduceMul, Nat.reduceSub, Nat.reduceLT, Nat.reduceLeDiff, Nat.reduceEqDiff, ↓reduceIte, decide_true, decide_false, and_true, true_and, and_false, false_and, or_false, false_or, or_true, true_or, not_true_eq_false, not_false_eq_true, eq_self, Nat.zero_add, Nat.add_zero, Nat.mul_zero, Nat.mul_one, Nat.zero_le, Nat.not_lt_zero, bind_sm, bind_sm2]
    exact RowStep.none hR hS _
