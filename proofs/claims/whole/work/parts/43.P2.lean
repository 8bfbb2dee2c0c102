/-! guards of both sides -/
theorem n32_pred (k : Nat) (x : Int32) (hk : k < 2147483648) : (x ≤ n32 k - 1) = (x < n32 k) := by
  rw [Int32.le_iff_toInt_le, Int32.lt_iff_toInt_lt, Int32.toInt_sub, n32_int hk, show (1 : Int32).toInt = 1 from rfl, Int.bmod_eq_of_le (by omega) (by omega)]
  exact propext (by omega)
theorem b_in (x : Int32) {k : Nat} (hk : k < 2147483648) : (∃ p, p < k ∧ x = n32 p ∧ f_X8_in x.toInt64 0 (n32 k - 1).toInt64 = some (n32 1) ∧ (x < n32 0) = False ∧ (n32 k ≤ x) = False) ∨ (f_X8_in x.toInt64 0 (n32 k - 1).toInt64 = some (n32 0) ∧ (x < n32 0 ∨ ((x < n32 0) = False ∧ n32 k ≤ x))) := by
  have e := t_in (x := x) (a := 0) (b := n32 k - 1)
  have e0 : f_X8_in x.toInt64 0 (n32 k - 1).toInt64 = some (if n32 0 ≤ x ∧ x < n32 k then n32 1 else n32 0) := by
    refine Eq.trans e ?_
    by_cases h : n32 0 ≤ x ∧ x < n32 k
    · rw [if_pos h, if_pos ⟨h.1, by rw [n32_pred k x hk]; exact h.2⟩]
    · rw [if_neg h, if_neg (fun q => h ⟨q.1, by rw [← n32_pred k x hk]; exact q.2⟩)]
  rcases n32_or x with ⟨n, hn, rfl⟩ | h
  · by_cases h : n < k
    · refine Or.inl ⟨n, h, rfl, ?_, ?_, ?_⟩
      · rw [e0, if_pos ⟨by rw [n32_le (by decide) hn]; omega, by rw [n32_lt hn hk]; exact h⟩]
      · rw [n32_lt hn (by decide)]; exact eq_false (by omega)
      · rw [n32_le hk hn]; exact eq_false (by omega)
    · refine Or.inr ⟨?_, Or.inr ⟨?_, ?_⟩⟩
      · rw [e0, if_neg (fun q => h (by have := q.2; rw [n32_lt hn hk] at this; exact this))]
      · rw [n32_lt hn (by decide)]; exact eq_false (by omega)
      · rw [n32_le hk hn]; omega
  · refine Or.inr ⟨?_, Or.inl h⟩
    rw [e0, if_neg (fun q => by have := q.1; rw [neg_nle h (by decide)] at this; exact this)]
section EV
variable {m0 m1 : Mem} {told : Int32} {v : Nat → Nat}
theorem b_person (hE : REv (m0 6) told m1 v) (x : Int32) : (∃ p, p < v 4 ∧ x = n32 p ∧ f_X8_isPerson m0 x = some (n32 1) ∧ f_X3_hasPerson m1 x = some (n32 1)) ∨ (f_X8_isPerson m0 x = some (n32 0) ∧ f_X3_hasPerson m1 x = some (n32 0)) := by
  obtain ⟨h1, ⟨⟨h4, _⟩, _⟩, ⟨⟨_, _, _, hc, _⟩, _⟩, -, -⟩ := hE
  unfold f_X8_isPerson f_X3_hasPerson
  simp (disch := omega) only [n32_lit, n32_add, n32_mul, n32_lt, n32_le, n32_eq, n32_nat, n32_inb, gd_dec, gd_one, nm_eq, jn_eq, Option.bind_some, Nat.reduceAdd, Nat.reduceMul, Nat.reduceSub, Nat.reduceLT, Nat.reduceLeDiff, Nat.reduceEqDiff, ↓reduceIte, decide_true, decide_false, and_true, true_and, and_false, false_and, or_false, false_or, or_true, true_or, not_true_eq_false, not_false_eq_true, eq_self, Nat.zero_add, Nat.add_zero, Nat.mul_zero, Nat.mul_one, Nat.zero_le, Nat.not_lt_zero, bind_sm, bind_sm2, h1 4 (by decide), hc]
  rcases b_in x (k := v 4) (by omega) with ⟨p, a, b, c, d, e⟩ | ⟨c, d⟩
  · rw [n32_lit 1] at c
    refine Or.inl ⟨p, a, b, ?_, ?_⟩
    · simp (disch := omega) only [n32_lit, n32_add, n32_mul, n32_lt, n32_le, n32_eq, n32_nat, n32_inb, gd_dec, gd_one, nm_eq, jn_eq, Option.bind_some, Nat.reduceAdd, Nat.reduceMul, Nat.reduceSub, Nat.reduceLT, Nat.reduceLeDiff, Nat.reduceEqDiff, ↓reduceIte, decide_true, decide_false, and_true, true_and, and_false, false_and, or_false, false_or, or_true, true_or, not_true_eq_false, not_false_eq_true, eq_self, Nat.zero_add, Nat.add_zero, Nat.mul_zero, Nat.mul_one, Nat.zero_le, Nat.not_lt_zero, bind_sm, bind_sm2, c]
    · simp (disch := omega) only [n32_lit, n32_add, n32_mul, n32_lt, n32_le, n32_eq, n32_nat, n32_inb, gd_dec, gd_one, nm_eq, jn_eq, Option.bind_some, Nat.reduceAdd, Nat.reduceMul, Nat.reduceSub, Nat.reduceLT, Nat.reduceLeDiff, Nat.reduceEqDiff, ↓reduceIte, decide_true, decide_false, and_true, true_and, and_false, false_and, or_false, false_or, or_true, true_or, not_true_eq_false, not_false_eq_true, eq_self, Nat.zero_add, Nat.add_zero, Nat.mul_zero, Nat.mul_one, Nat.zero_le, Nat.not_lt_zero, bind_sm, bind_sm2, d, e]
  · rw [n32_lit 1] at c
    refine Or.inr ⟨?_, ?_⟩
    · simp (disch := omega) only [n32_lit, n32_add, n32_mul, n32_lt, n32_le, n32_eq, n32_nat, n32_inb, gd_dec, gd_one, nm_eq, jn_eq, Option.bind_some, Nat.reduceAdd, Nat.reduceMul, Nat.reduceSub, Nat.reduceLT, Nat.reduceLeDiff, Nat.reduceEqDiff, ↓reduceIte, decide_true, decide_false, and_true, true_and, and_false, false_and, or_false, false_or, or_true, true_or, not_true_eq_false, not_false_eq_true, eq_self, Nat.zero_add, Nat.add_zero, Nat.mul_zero, Nat.mul_one, Nat.zero_le, Nat.not_lt_zero, bind_sm, bind_sm2, c]
    · rcases d with d | ⟨d, e⟩
      · simp (disch := omega) only [n32_lit, n32_add, n32_mul, n32_lt, n32_le, n32_eq, n32_nat, n32_inb, gd_dec, gd_one, nm_eq, jn_eq, Option.bind_some, Nat.reduceAdd, Nat.reduceMul, Nat.reduceSub, Nat.reduceLT, Nat.reduceLeDiff, Nat.reduceEqDiff, ↓reduceIte, decide_true, decide_false, and_true, true_and, and_false, false_and, or_false, false_or, or_true, true_or, not_true_eq_false, not_false_eq_true, eq_self, Nat.zero_add, Nat.add_zero, Nat.mul_zero, Nat.mul_one, Nat.zero_le, Nat.not_lt_zero, bind_sm, bind_sm2, d]
      · simp (disch := omega) only [n32_lit, n32_add, n32_mul, n32_lt, n32_le, n32_eq, n32_nat, n32_inb, gd_dec, gd_one, nm_eq, jn_eq, Option.bind_some, Nat.reduceAdd, Nat.reduceMul, Nat.reduceSub, Nat.reduceLT, Nat.reduceLeDiff, Nat.reduceEqDiff, ↓reduceIte, decide_true, decide_false, and_true, true_and, and_false, false_and, or_false, false_or, or_true, true_or, not_true_eq_false, not_false_eq_true, eq_self, Nat.zero_add, Nat.add_zero, Nat.mul_zero, Nat.mul_one, Nat.zero_le, Nat.not_lt_zero, bind_sm, bind_sm2, d, e]
theorem b_car (hE : REv (m0 6) told m1 v) (x : Int32) : (∃ p, p < v 5 ∧ x = n32 p ∧ f_X8_isCar m0 x = some (n32 1) ∧ f_X3_hasCar m1 x = some (n32 1)) ∨ (f_X8_isCar m0 x = some (n32 0) ∧ f_X3_hasCar m1 x = some (n32 0)) := by
  obtain ⟨h1, ⟨⟨_, h4, _⟩, _⟩, ⟨⟨_, _, _, _, hc, _⟩, _⟩, -, -⟩ := hE
  unfold f_X8_isCar f_X3_hasCar
  simp (disch := omega) only [n32_lit, n32_add, n32_mul, n32_lt, n32_le, n32_eq, n32_nat, n32_inb, gd_dec, gd_one, nm_eq, jn_eq, Option.bind_some, Nat.reduceAdd, Nat.reduceMul, Nat.reduceSub, Nat.reduceLT, Nat.reduceLeDiff, Nat.reduceEqDiff, ↓reduceIte, decide_true, decide_false, and_true, true_and, and_false, false_and, or_false, false_or, or_true, true_or, not_true_eq_false, not_false_eq_true, eq_self, Nat.zero_add, Nat.add_zero, Nat.mul_zero, Nat.mul_one, Nat.zero_le, Nat.not_lt_zero, bind_sm, bind_sm2, h1 5 (by decide), hc]
  rcases b_in x (k := v 5) (by omega) with ⟨p, a, b, c, d, e⟩ | ⟨c, d⟩
  · rw [n32_lit 1] at c
    refine Or.inl ⟨p, a, b, ?_, ?_⟩
    · simp (disch := omega) only [n32_lit, n32_add, n32_mul, n32_lt, n32_le, n32_eq, n32_nat, n32_inb, gd_dec, gd_one, nm_eq, jn_eq, Option.bind_some, Nat.reduceAdd, Nat.reduceMul, Nat.reduceSub, Nat.reduceLT, Nat.reduceLeDiff, Nat.reduceEqDiff, ↓reduceIte, decide_true, decide_false, and_true, true_and, and_false, false_and, or_false, false_or, or_true, true_or, not_true_eq_false, not_false_eq_true, eq_self, Nat.zero_add, Nat.add_zero, Nat.mul_zero, Nat.mul_one, Nat.zero_le, Nat.not_lt_zero, bind_sm, bind_sm2, c]
    · simp (disch := omega) only [n32_lit, n32_add, n32_mul, n32_lt, n32_le, n32_eq, n32_nat, n32_inb, gd_dec, gd_one, nm_eq, jn_eq, Option.bind_some, Nat.reduceAdd, Nat.reduceMul, Nat.reduceSub, Nat.reduceLT, Nat.reduceLeDiff, Nat.reduceEqDiff, ↓reduceIte, decide_true, decide_false, and_true, true_and, and_false, false_and, or_false, false_or, or_true, true_or, not_true_eq_false, not_false_eq_true, eq_self, Nat.zero_add, Nat.add_zero, Nat.mul_zero, Nat.mul_one, Nat.zero_le, Nat.not_lt_zero, bind_sm, bind_sm2, d, e]
  · rw [n32_lit 1] at c
    refine Or.inr ⟨?_, ?_⟩
    · simp (disch := omega) only [n32_lit, n32_add, n32_mul, n32_lt, n32_le, n32_eq, n32_nat, n32_inb, gd_dec, gd_one, nm_eq, jn_eq, Option.bind_some, Nat.reduceAdd, Nat.reduceMul, Nat.reduceSub, Nat.reduceLT, Nat.reduceLeDiff, Nat.reduceEqDiff, ↓reduceIte, decide_true, decide_false, and_true, true_and, and_false, false_and, or_false, false_or, or_true, true_or, not_true_eq_false, not_false_eq_true, eq_self, Nat.zero_add, Nat.add_zero, Nat.mul_zero, Nat.mul_one, Nat.zero_le, Nat.not_lt_zero, bind_sm, bind_sm2, c]
    · rcases d with d | ⟨d, e⟩
      · simp (disch := omega) only [n32_lit, n32_add, n32_mul, n32_lt, n32_le, n32_eq, n32_nat, n32_inb, gd_dec, gd_one, nm_eq, jn_eq, Option.bind_some, Nat.reduceAdd, Nat.reduceMul, Nat.reduceSub, Nat.reduceLT, Nat.reduceLeDiff, Nat.reduceEqDiff, ↓reduceIte, decide_true, decide_false, and_true, true_and, and_false, false_and, or_false, false_or, or_true, true_or, not_true_eq_false, not_false_eq_true, eq_self, Nat.zero_add, Nat.add_zero, Nat.mul_zero, Nat.mul_one, Nat.zero_le, Nat.not_lt_zero, bind_sm, bind_sm2, d]
      · simp (disch := omega) only [n32_lit, n32_add, n32_mul, n32_lt, n32_le, n32_eq, n32_nat, n32_inb, gd_dec, gd_one, nm_eq, jn_eq, Option.bind_some, Nat.reduceAdd, Nat.reduceMul, Nat.reduceSub, Nat.reduceLT, Nat.reduceLeDiff, Nat.reduceEqDiff, ↓reduceIte, decide_true, decide_false, and_true, true_and, and_false, false_and, or_false, false_or, or_true, true_or, not_true_eq_false, not_false_eq_true, eq_self, Nat.zero_add, Nat.add_zero, Nat.mul_zero, Nat.mul_one, Nat.zero_le, Nat.not_lt_zero, bind_sm, bind_sm2, d, e]
end EV
theorem b_row (x : Int32) : (∃ p, p < 8 ∧ x = n32 p ∧ f_X8_isRow x = some (n32 1) ∧ f_X7_isRow x = some (n32 1)) ∨ (f_X8_isRow x = some (n32 0) ∧ f_X7_isRow x = some (n32 0)) := by
  unfold f_X8_isRow f_X7_isRow
  rcases b_in x (k := 8) (by decide) with ⟨p, a, b, c, d, e⟩ | ⟨c, d⟩
  · refine Or.inl ⟨p, a, b, ?_, ?_⟩
    · rw [show (7 : Int64) = (n32 8 - 1).toInt64 from rfl, c]; rfl
    · simp (disch := omega) only [n32_lit, n32_add, n32_mul, n32_lt, n32_le, n32_eq, n32_nat, n32_inb, gd_dec, gd_one, nm_eq, jn_eq, Option.bind_some, Nat.reduceAdd, Nat.reduceMul, Nat.reduceSub, Nat.reduceLT, Nat.reduceLeDiff, Nat.reduceEqDiff, ↓reduceIte, decide_true, decide_false, and_true, true_and, and_false, false_and, or_false, false_or, or_true, true_or, not_true_eq_false, not_false_eq_true, eq_self, Nat.zero_add, Nat.add_zero, Nat.mul_zero, Nat.mul_one, Nat.zero_le, Nat.not_lt_zero, bind_sm, bind_sm2, d, e]
  · refine Or.inr ⟨?_, ?_⟩
    · rw [show (7 : Int64) = (n32 8 - 1).toInt64 from rfl, c]; rfl
    · rcases d with d | ⟨d, e⟩
      · simp (disch := omega) only [n32_lit, n32_add, n32_mul, n32_lt, n32_le, n32_eq, n32_nat, n32_inb, gd_dec, gd_one, nm_eq, jn_eq, Option.bind_some, Nat.reduceAdd, Nat.reduceMul, Nat.reduceSub, Nat.reduceLT, Nat.reduceLeDiff, Nat.reduceEqDiff, ↓reduceIte, decide_true, decide_false, and_true, true_and, and_false, false_and, or_false, false_or, or_true, true_or, not_true_eq_false, not_false_eq_true, eq_self, Nat.zero_add, Nat.add_zero, Nat.mul_zero, Nat.mul_one, Nat.zero_le, Nat.not_lt_zero, bind_sm, bind_sm2, d]
      · simp (disch := omega) only [n32_lit, n32_add, n32_mul, n32_lt, n32_le, n32_eq, n32_nat, n32_inb, gd_dec, gd_one, nm_eq, jn_eq, Option.bind_some, Nat.reduceAdd, Nat.reduceMul, Nat.reduceSub, Nat.reduceLT, Nat.reduceLeDiff, Nat.reduceEqDiff, ↓reduceIte, decide_true, decide_false, and_true, true_and, and_false, false_and, or_false, false_or, or_true, true_or, not_true_eq_false, not_false_eq_true, eq_self, Nat.zero_add, Nat.add_zero, Nat.mul_zero, Nat.mul_one, Nat.zero_le, Nat.not_lt_zero, bind_sm, bind_sm2, d, e]
theorem b_min (x : Int32) : (∃ p, p ≤ 600 ∧ x = n32 p ∧ f_X8_isMinute x = some (n32 1) ∧ f_X7_isMinute x = some (n32 1)) ∨ (f_X8_isMinute x = some (n32 0) ∧ f_X7_isMinute x = some (n32 0)) := by
  unfold f_X8_isMinute f_X7_isMinute
  rcases b_in x (k := 601) (by decide) with ⟨p, a, b, c, d, e⟩ | ⟨c, d⟩
  · refine Or.inl ⟨p, by omega, b, ?_, ?_⟩
    · rw [show (600 : Int64) = (n32 601 - 1).toInt64 from rfl, c]; rfl
    · subst b
      simp (disch := omega) only [n32_lit, n32_add, n32_mul, n32_lt, n32_le, n32_eq, n32_nat, n32_inb, gd_dec, gd_one, nm_eq, jn_eq, Option.bind_some, Nat.reduceAdd, Nat.reduceMul, Nat.reduceSub, Nat.reduceLT, Nat.reduceLeDiff, Nat.reduceEqDiff, ↓reduceIte, decide_true, decide_false, and_true, true_and, and_false, false_and, or_false, false_or, or_true, true_or, not_true_eq_false, not_false_eq_true, eq_self, Nat.zero_add, Nat.add_zero, Nat.mul_zero, Nat.mul_one, Nat.zero_le, Nat.not_lt_zero, bind_sm, bind_sm2, d, e]
      rw [if_neg (by omega)]
  · refine Or.inr ⟨?_, ?_⟩
    · rw [show (600 : Int64) = (n32 601 - 1).toInt64 from rfl, c]; rfl
    · rcases d with d | ⟨d, e⟩
      · simp (disch := omega) only [n32_lit, n32_add, n32_mul, n32_lt, n32_le, n32_eq, n32_nat, n32_inb, gd_dec, gd_one, nm_eq, jn_eq, Option.bind_some, Nat.reduceAdd, Nat.reduceMul, Nat.reduceSub, Nat.reduceLT, Nat.reduceLeDiff, Nat.reduceEqDiff, ↓reduceIte, decide_true, decide_false, and_true, true_and, and_false, false_and, or_false, false_or, or_true, true_or, not_true_eq_false, not_false_eq_true, eq_self, Nat.zero_add, Nat.add_zero, Nat.mul_zero, Nat.mul_one, Nat.zero_le, Nat.not_lt_zero, bind_sm, bind_sm2, d]
      · rw [n32_lesucc (by decide)] at e
        simp (disch := omega) only [n32_lit, n32_add, n32_mul, n32_lt, n32_le, n32_eq, n32_nat, n32_inb, gd_dec, gd_one, nm_eq, jn_eq, Option.bind_some, Nat.reduceAdd, Nat.reduceMul, Nat.reduceSub, Nat.reduceLT, Nat.reduceLeDiff, Nat.reduceEqDiff, ↓reduceIte, decide_true, decide_false, and_true, true_and, and_false, false_and, or_false, false_or, or_true, true_or, not_true_eq_false, not_false_eq_true, eq_self, Nat.zero_add, Nat.add_zero, Nat.mul_zero, Nat.mul_one, Nat.zero_le, Nat.not_lt_zero, bind_sm, bind_sm2, d, e]
