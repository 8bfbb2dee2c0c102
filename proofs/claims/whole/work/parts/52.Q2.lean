/-! copy -/
theorem n64_int {a : Nat} (h : a < 2147483648) : (n32 a).toInt64.toInt = (a : Int) := by
  rw [Int32.toInt_toInt64, n32_int h]
theorem c64_gt {a b c : Nat} (ha : a < 2147483648) (hb : b < 2147483648) (hc : c < 2147483648) : (n32 0 < lg_cmp ((n32 a).toInt64 + (n32 b).toInt64) (n32 c).toInt64) = (c < a + b) := by
  refine (cmp_gt _ _).trans ?_
  rw [Int64.lt_iff_toInt_lt, Int64.toInt_add, n64_int ha, n64_int hb, n64_int hc, Int.bmod_eq_of_le (by omega) (by omega)]
  exact propext (by omega)
theorem c64_le {a b c : Nat} (ha : a < 2147483648) (hb : b < 2147483648) (hc : c < 2147483648) : (lg_cmp ((n32 a).toInt64 + (n32 b).toInt64) (n32 c).toInt64 ≤ n32 0) = (a + b ≤ c) := by
  rw [← i32_nlt, c64_gt ha hb hc]; exact propext (by omega)
theorem t_stretch {m5 : Mem} {p k : Nat} (hp : p < 8) (hk : k ≤ 40) (e : m5 2 p = n32 k) (x y : Int32) : (∃ i c, i + c ≤ k ∧ x = n32 i ∧ y = n32 c ∧ f_X6_hasStretch m5 (n32 p) x y = some (n32 1)) ∨ (f_X6_hasStretch m5 (n32 p) x y = some (n32 0) ∧ (x < n32 0 ∨ y < n32 0 ∨ ∃ i c, i < 2147483648 ∧ c < 2147483648 ∧ k < i + c ∧ x = n32 i ∧ y = n32 c)) := by
  unfold f_X6_hasStretch
  rcases n32_or x with ⟨i, hi, rfl⟩ | h
  · rcases n32_or y with ⟨c, hc, rfl⟩ | h
    · by_cases q : i + c ≤ k
      · refine Or.inl ⟨i, c, q, rfl, rfl, ?_⟩
        have h1 : ¬ k < i := by omega
        have h2 : ¬ k - i < c := by omega
        simp (disch := omega) only [n32_lit, n32_add, n32_mul, n32_lt, n32_le, n32_eq, n32_nat, n32_inb, gd_dec, gd_one, nm_eq, jn_eq, Option.bind_some, Nat.reduceAdd, Nat.reduceMul, Nat.reduceSub, Nat.reduceLT, Nat.reduceLeDiff, Nat.reduceEqDiff, ↓reduceIte, decide_true, decide_false, and_true, true_and, and_false, false_and, or_false, false_or, or_true, true_or, not_true_eq_false, not_false_eq_true, eq_self, Nat.zero_add, Nat.add_zero, Nat.mul_zero, Nat.mul_one, Nat.zero_le, Nat.not_lt_zero, bind_sm, bind_sm2, hp, e, h1, n32_sub (show i ≤ k by omega), h2]
      · refine Or.inr ⟨?_, Or.inr (Or.inr ⟨i, c, hi, hc, by omega, rfl, rfl⟩)⟩
        by_cases h1 : k < i
        · simp (disch := omega) only [n32_lit, n32_add, n32_mul, n32_lt, n32_le, n32_eq, n32_nat, n32_inb, gd_dec, gd_one, nm_eq, jn_eq, Option.bind_some, Nat.reduceAdd, Nat.reduceMul, Nat.reduceSub, Nat.reduceLT, Nat.reduceLeDiff, Nat.reduceEqDiff, ↓reduceIte, decide_true, decide_false, and_true, true_and, and_false, false_and, or_false, false_or, or_true, true_or, not_true_eq_false, not_false_eq_true, eq_self, Nat.zero_add, Nat.add_zero, Nat.mul_zero, Nat.mul_one, Nat.zero_le, Nat.not_lt_zero, bind_sm, bind_sm2, hp, e, h1]
        · have h2 : k - i < c := by omega
          simp (disch := omega) only [n32_lit, n32_add, n32_mul, n32_lt, n32_le, n32_eq, n32_nat, n32_inb, gd_dec, gd_one, nm_eq, jn_eq, Option.bind_some, Nat.reduceAdd, Nat.reduceMul, Nat.reduceSub, Nat.reduceLT, Nat.reduceLeDiff, Nat.reduceEqDiff, ↓reduceIte, decide_true, decide_false, and_true, true_and, and_false, false_and, or_false, false_or, or_true, true_or, not_true_eq_false, not_false_eq_true, eq_self, Nat.zero_add, Nat.add_zero, Nat.mul_zero, Nat.mul_one, Nat.zero_le, Nat.not_lt_zero, bind_sm, bind_sm2, hp, e, h1, n32_sub (show i ≤ k by omega), h2]
    · refine Or.inr ⟨?_, Or.inr (Or.inl h)⟩
      have h' : (y < n32 0) = True := eq_true h
      simp (disch := omega) only [n32_lit, n32_add, n32_mul, n32_lt, n32_le, n32_eq, n32_nat, n32_inb, gd_dec, gd_one, nm_eq, jn_eq, Option.bind_some, Nat.reduceAdd, Nat.reduceMul, Nat.reduceSub, Nat.reduceLT, Nat.reduceLeDiff, Nat.reduceEqDiff, ↓reduceIte, decide_true, decide_false, and_true, true_and, and_false, false_and, or_false, false_or, or_true, true_or, not_true_eq_false, not_false_eq_true, eq_self, Nat.zero_add, Nat.add_zero, Nat.mul_zero, Nat.mul_one, Nat.zero_le, Nat.not_lt_zero, bind_sm, bind_sm2, h']
  · refine Or.inr ⟨?_, Or.inl h⟩
    have h' : (x < n32 0) = True := eq_true h
    simp (disch := omega) only [n32_lit, n32_add, n32_mul, n32_lt, n32_le, n32_eq, n32_nat, n32_inb, gd_dec, gd_one, nm_eq, jn_eq, Option.bind_some, Nat.reduceAdd, Nat.reduceMul, Nat.reduceSub, Nat.reduceLT, Nat.reduceLeDiff, Nat.reduceEqDiff, ↓reduceIte, decide_true, decide_false, and_true, true_and, and_false, false_and, or_false, false_or, or_true, true_or, not_true_eq_false, not_false_eq_true, eq_self, Nat.zero_add, Nat.add_zero, Nat.mul_zero, Nat.mul_one, Nat.zero_le, Nat.not_lt_zero, bind_sm, bind_sm2, h']
theorem t_copy_loop (w : Mem) {a i b j n : Nat} (ha : a < 8) (hb : b < 8) (hi : i + n ≤ 40) (hj : j + n ≤ 40) (x5 : Int32) : ∃ w', f_X8_copy_L143 (fun (u27 : Int32) (w28 : Mem) => (some (x5, w28))) (n32 a) (n32 i) (n32 b) (n32 j) (n32 n) (if i < j then n32 0 else n32 1) 100000 (n32 0) w = some (x5, w') ∧ ∀ s y, w' s y = if s = 5 ∧ 40 * b + j ≤ y ∧ y < 40 * b + j + n then w 5 (40 * a + i + (y - (40 * b + j))) else w s y := by
  have key : ok (fun r => r.1 = x5 ∧ ∀ s y, r.2 s y = if s = 5 ∧ 40 * b + j ≤ y ∧ y < 40 * b + j + n then w 5 (40 * a + i + (y - (40 * b + j))) else w s y) (f_X8_copy_L143 (fun (u27 : Int32) (w28 : Mem) => (some (x5, w28))) (n32 a) (n32 i) (n32 b) (n32 j) (n32 n) (if i < j then n32 0 else n32 1) 100000 (n32 0) w) := by
    by_cases hij : i < j
    · rw [if_pos hij]
      refine loop_up (S := Mem) (fun t u s => f_X8_copy_L143 (fun (u27 : Int32) (w28 : Mem) => (some (x5, w28))) (n32 a) (n32 i) (n32 b) (n32 j) (n32 n) (n32 0) t u s) n (fun k r => ∀ s y, r s y = if s = 5 ∧ 40 * b + j + n - k ≤ y ∧ y < 40 * b + j + n then w 5 (40 * a + i + (y - (40 * b + j))) else w s y) _ ?_ ?_ n 0 w 100000 (by omega) (by omega) (fun s j => by rw [if_neg (by omega)])
      · intro t s hI
        refine ok_eq (f_X8_copy_L143.eq_2 _ _ _ _ _ _ _ _ _ _) ?_
        simp (disch := omega) only [n32_lit, n32_add, n32_mul, n32_lt, n32_le, n32_eq, n32_nat, n32_inb, gd_dec, gd_one, nm_eq, jn_eq, Option.bind_some, Nat.reduceAdd, Nat.reduceMul, Nat.reduceSub, Nat.reduceLT, Nat.reduceLeDiff, Nat.reduceEqDiff, ↓reduceIte, decide_true, decide_false, and_true, true_and, and_false, false_and, or_false, false_or, or_true, true_or, not_true_eq_false, not_false_eq_true, eq_self, Nat.zero_add, Nat.add_zero, Nat.mul_zero, Nat.mul_one, Nat.zero_le, Nat.not_lt_zero, bind_sm, bind_sm2, Nat.le_refl]
        refine ok_some ⟨rfl, fun s y => ?_⟩
        refine (hI s y).trans ?_
        rw [show 40 * b + j + n - n = 40 * b + j by omega]
      · intro k t s hk hI
        left
        have hn : ¬ n ≤ k := by omega
        refine ⟨up s 5 (40 * b + j + (n - 1 - k)) (w 5 (40 * a + i + (n - 1 - k))), ?_, ?_⟩
        · intro s' y
          rw [up_ap, hI]
          by_cases h1 : s' = 5
          · by_cases h2 : y = 40 * b + j + (n - 1 - k)
            · rw [if_pos ⟨h1, h2⟩, if_pos (by omega), h2]
              congr 1; omega
            · rw [if_neg (by omega)]
              by_cases h3 : 40 * b + j + n - k ≤ y ∧ y < 40 * b + j + n
              · rw [if_pos ⟨h1, h3⟩, if_pos (by omega)]
              · rw [if_neg (by omega), if_neg (by omega)]
          · rw [if_neg (by omega), if_neg (by omega), if_neg (by omega)]
        · refine Eq.trans (f_X8_copy_L143.eq_2 _ _ _ _ _ _ _ _ _ _) ?_
          have e := hI 5 (40 * a + i + (n - 1 - k))
          rw [if_neg (by omega)] at e
          have e1 : n32 n - n32 1 - n32 k = n32 (n - 1 - k) := by rw [n32_sub (by omega), n32_sub (by omega)]
          simp (disch := omega) only [n32_lit, n32_add, n32_mul, n32_lt, n32_le, n32_eq, n32_nat, n32_inb, gd_dec, gd_one, nm_eq, jn_eq, Option.bind_some, Nat.reduceAdd, Nat.reduceMul, Nat.reduceSub, Nat.reduceLT, Nat.reduceLeDiff, Nat.reduceEqDiff, ↓reduceIte, decide_true, decide_false, and_true, true_and, and_false, false_and, or_false, false_or, or_true, true_or, not_true_eq_false, not_false_eq_true, eq_self, Nat.zero_add, Nat.add_zero, Nat.mul_zero, Nat.mul_one, Nat.zero_le, Nat.not_lt_zero, bind_sm, bind_sm2, hn, e1, show 40 * a + i + (n - 1 - k) < 320 by omega, show 40 * b + j + (n - 1 - k) < 320 by omega, e]
    · rw [if_neg hij]
      refine loop_up (S := Mem) (fun t u s => f_X8_copy_L143 (fun (u27 : Int32) (w28 : Mem) => (some (x5, w28))) (n32 a) (n32 i) (n32 b) (n32 j) (n32 n) (n32 1) t u s) n (fun k r => ∀ s y, r s y = if s = 5 ∧ 40 * b + j ≤ y ∧ y < 40 * b + j + k then w 5 (40 * a + i + (y - (40 * b + j))) else w s y) _ ?_ ?_ n 0 w 100000 (by omega) (by omega) (fun s j => by rw [if_neg (by omega)])
      · intro t s hI
        refine ok_eq (f_X8_copy_L143.eq_2 _ _ _ _ _ _ _ _ _ _) ?_
        simp (disch := omega) only [n32_lit, n32_add, n32_mul, n32_lt, n32_le, n32_eq, n32_nat, n32_inb, gd_dec, gd_one, nm_eq, jn_eq, Option.bind_some, Nat.reduceAdd, Nat.reduceMul, Nat.reduceSub, Nat.reduceLT, Nat.reduceLeDiff, Nat.reduceEqDiff, ↓reduceIte, decide_true, decide_false, and_true, true_and, and_false, false_and, or_false, false_or, or_true, true_or, not_true_eq_false, not_false_eq_true, eq_self, Nat.zero_add, Nat.add_zero, Nat.mul_zero, Nat.mul_one, Nat.zero_le, Nat.not_lt_zero, bind_sm, bind_sm2, Nat.le_refl]
        exact ok_some ⟨rfl, hI⟩
      · intro k t s hk hI
        left
        have hn : ¬ n ≤ k := by omega
        refine ⟨up s 5 (40 * b + j + k) (w 5 (40 * a + i + k)), ?_, ?_⟩
        · intro s' y
          rw [up_ap, hI]
          by_cases h1 : s' = 5
          · by_cases h2 : y = 40 * b + j + k
            · rw [if_pos ⟨h1, h2⟩, if_pos (by omega), h2]
              congr 1; omega
            · rw [if_neg (by omega)]
              by_cases h3 : 40 * b + j ≤ y ∧ y < 40 * b + j + k
              · rw [if_pos ⟨h1, h3⟩, if_pos (by omega)]
              · rw [if_neg (by omega), if_neg (by omega)]
          · rw [if_neg (by omega), if_neg (by omega), if_neg (by omega)]
        · refine Eq.trans (f_X8_copy_L143.eq_2 _ _ _ _ _ _ _ _ _ _) ?_
          have e := hI 5 (40 * a + i + k)
          rw [if_neg (by omega)] at e
          simp (disch := omega) only [n32_lit, n32_add, n32_mul, n32_lt, n32_le, n32_eq, n32_nat, n32_inb, gd_dec, gd_one, nm_eq, jn_eq, Option.bind_some, Nat.reduceAdd, Nat.reduceMul, Nat.reduceSub, Nat.reduceLT, Nat.reduceLeDiff, Nat.reduceEqDiff, ↓reduceIte, decide_true, decide_false, and_true, true_and, and_false, false_and, or_false, false_or, or_true, true_or, not_true_eq_false, not_false_eq_true, eq_self, Nat.zero_add, Nat.add_zero, Nat.mul_zero, Nat.mul_one, Nat.zero_le, Nat.not_lt_zero, bind_sm, bind_sm2, hn, show 40 * a + i + k < 320 by omega, show 40 * b + j + k < 320 by omega, e]
  obtain ⟨r, e, h1, h2⟩ := key
  exact ⟨r.2, by rw [e, ← h1], h2⟩
theorem cpok_n {a b n x y : Nat} (ha : a < 2147483648) (hb : b < 2147483648) (hn : n < 2147483648) (h1 : a + n ≤ x) (h2 : b + n ≤ y) : cpok (n32 a) (n32 b) (n32 n) x y = true := by
  unfold cpok
  refine decide_eq_true ⟨?_, ?_, ?_, ?_, ?_⟩
  · rw [n32_lit 0, n32_lt ha (by decide)]; omega
  · rw [n32_lit 0, n32_lt hb (by decide)]; omega
  · rw [n32_lit 0, n32_lt hn (by decide)]; omega
  · rw [n32_nat ha, n32_nat hn]; exact h1
  · rw [n32_nat hb, n32_nat hn]; exact h2
theorem lane_eqb {l l' : Nat} (h : l ≤ 2) (h' : l' ≤ 2) : (n32 l = n32 l') = (l = l') := n32_eq (by omega) (by omega)
theorem s_copy {m0 m5 m11 : Mem} (hR : RRows ((up m0 0 0 0) 3) ((up m0 0 0 0) 4) ((up m0 0 0 0) 5) m5) (hS : RSt ((up m0 0 0 0) 0 1) m11) (x1 x2 x3 x4 x5 : Int32) : RowStep (f_X7_copy m5 m11 x1 x2 x3 x4 x5) (f_X8_copy m0 x1 x2 x3 x4 x5) (up m0 0 0 0) := by
  unfold f_X7_copy f_X8_copy
  rw [nm_eq]
  generalize hw : up m0 0 0 0 = w at *
  rcases b_row x1 with ⟨a, ha, rfl, e1, e2⟩ | ⟨e1, e2⟩
  · rw [e1, e2]
    rcases b_row x3 with ⟨b, hb, rfl, e3, e4⟩ | ⟨e3, e4⟩
    · rw [e3, e4]
      obtain ⟨-, -, ⟨ka, g3, g4, g5⟩, -⟩ := hR a ha
      obtain ⟨-, -, ⟨kb, g3', g4', g5'⟩, -⟩ := hR b hb
      rcases t_missing hR ha with ⟨l1, l2, l3⟩ | ⟨l, hl, l1, l2, l3⟩
      · rw [l3]
        unfold f_X7_found f_X8_finding
        simp (maxSteps := 400000) (disch := omega) only [n32_lit, n32_add, n32_mul, n32_lt, n32_le, n32_eq, n32_nat, n32_inb, gd_dec, gdE, ↓nmE, ↓jnE, ↓bsE, Nat.reduceAdd, Nat.reduceMul, Nat.reduceSub, Nat.reduceLT, Nat.reduceLeDiff, Nat.reduceEqDiff, ↓reduceIte, decide_true, decide_false, and_true, true_and, and_false, false_and, or_false, false_or, or_true, true_or, not_true_eq_false, not_false_eq_true, eq_self, Nat.zero_add, Nat.add_zero, Nat.mul_zero, Nat.mul_one, Nat.zero_le, Nat.not_lt_zero, bind_sm, bind_sm2, up_at, up_ms, up_mi, upA_at, upA_ms, ha, l1, neg1_lt0, up_up]
        exact RowStep.found hR hS _ _
      · rw [l3]
        rcases t_missing hR hb with ⟨l1', l2', l3'⟩ | ⟨l', hl', l1', l2', l3'⟩
        · rw [l3']
          unfold f_X7_found f_X8_finding
          simp (maxSteps := 400000) (disch := omega) only [n32_lit, n32_add, n32_mul, n32_lt, n32_le, n32_eq, n32_nat, n32_inb, gd_dec, gdE, ↓nmE, ↓jnE, ↓bsE, Nat.reduceAdd, Nat.reduceMul, Nat.reduceSub, Nat.reduceLT, Nat.reduceLeDiff, Nat.reduceEqDiff, ↓reduceIte, decide_true, decide_false, and_true, true_and, and_false, false_and, or_false, false_or, or_true, true_or, not_true_eq_false, not_false_eq_true, eq_self, Nat.zero_add, Nat.add_zero, Nat.mul_zero, Nat.mul_one, Nat.zero_le, Nat.not_lt_zero, bind_sm, bind_sm2, up_at, up_ms, up_mi, upA_at, upA_ms, ha, hb, l1, l1', neg1_le0, up_up]
          exact RowStep.found hR hS _ _
        · rw [l3']
          unfold f_X6_areOfOneLane
          simp (maxSteps := 400000) (disch := omega) only [n32_lit, n32_add, n32_mul, n32_lt, n32_le, n32_eq, n32_nat, n32_inb, gd_dec, gdE, ↓nmE, ↓jnE, ↓bsE, Nat.reduceAdd, Nat.reduceMul, Nat.reduceSub, Nat.reduceLT, Nat.reduceLeDiff, Nat.reduceEqDiff, ↓reduceIte, decide_true, decide_false, and_true, true_and, and_false, false_and, or_false, false_or, or_true, true_or, not_true_eq_false, not_false_eq_true, eq_self, Nat.zero_add, Nat.add_zero, Nat.mul_zero, Nat.mul_one, Nat.zero_le, Nat.not_lt_zero, bind_sm, bind_sm2, up_at, up_ms, up_mi, upA_at, upA_ms, ha, hb, l1, l1', l2, l2']
          by_cases hll : l = l'
          · have fnd : RowStep ((f_X7_found m11 (n32 2)).bind (fun r18 => (some (r18.1, m5, r18.2)))) (some (-n32 1000010 - n32 2, up (up w 0 1 (n32 0)) 0 1 (n32 2))) w := by
              unfold f_X7_found
              simp (maxSteps := 400000) (disch := omega) only [n32_lit, n32_add, n32_mul, n32_lt, n32_le, n32_eq, n32_nat, n32_inb, gd_dec, gdE, ↓nmE, ↓jnE, ↓bsE, Nat.reduceAdd, Nat.reduceMul, Nat.reduceSub, Nat.reduceLT, Nat.reduceLeDiff, Nat.reduceEqDiff, ↓reduceIte, decide_true, decide_false, and_true, true_and, and_false, false_and, or_false, false_or, or_true, true_or, not_true_eq_false, not_false_eq_true, eq_self, Nat.zero_add, Nat.add_zero, Nat.mul_zero, Nat.mul_one, Nat.zero_le, Nat.not_lt_zero, bind_sm, bind_sm2, up_at, up_ms, up_mi, upA_at, upA_ms, up_up]
              exact RowStep.found hR hS _ _
            simp (maxSteps := 400000) (disch := omega) only [n32_lit, n32_add, n32_mul, n32_lt, n32_le, n32_eq, n32_nat, n32_inb, gd_dec, gdE, ↓nmE, ↓jnE, ↓bsE, Nat.reduceAdd, Nat.reduceMul, Nat.reduceSub, Nat.reduceLT, Nat.reduceLeDiff, Nat.reduceEqDiff, ↓reduceIte, decide_true, decide_false, and_true, true_and, and_false, false_and, or_false, false_or, or_true, true_or, not_true_eq_false, not_false_eq_true, eq_self, Nat.zero_add, Nat.add_zero, Nat.mul_zero, Nat.mul_one, Nat.zero_le, Nat.not_lt_zero, bind_sm, bind_sm2, hll]
            rcases t_stretch ha g3 g5 x2 x5 with ⟨i, n, h1, rfl, rfl, e5⟩ | ⟨e5, h1⟩
            · have q1 : ¬ ka < i + n := by omega
              simp (maxSteps := 400000) (disch := omega) only [n32_lit, n32_add, n32_mul, n32_lt, n32_le, n32_eq, n32_nat, n32_inb, gd_dec, gdE, ↓nmE, ↓jnE, ↓bsE, Nat.reduceAdd, Nat.reduceMul, Nat.reduceSub, Nat.reduceLT, Nat.reduceLeDiff, Nat.reduceEqDiff, ↓reduceIte, decide_true, decide_false, and_true, true_and, and_false, false_and, or_false, false_or, or_true, true_or, not_true_eq_false, not_false_eq_true, eq_self, Nat.zero_add, Nat.add_zero, Nat.mul_zero, Nat.mul_one, Nat.zero_le, Nat.not_lt_zero, bind_sm, bind_sm2, e5, g4, c64_gt, q1]
              rcases t_stretch hb g3' g5' x4 (n32 n) with ⟨j, n', h2, rfl, hn, e6⟩ | ⟨e6, h2⟩
              · obtain rfl : n = n' := by rw [← n32_eq (a := n) (b := n') (by omega) (by omega)]; exact hn
                obtain ⟨w', e7, h7⟩ := t_copy_loop (up w 0 1 (n32 0)) ha hb (show i + n ≤ 40 by omega) (show j + n ≤ 40 by omega) (n32 n)
                simp (maxSteps := 400000) (disch := omega) only [n32_lit, n32_add, n32_mul, n32_lt, n32_le, n32_eq, n32_nat, n32_inb, gd_dec, gdE, ↓nmE, ↓jnE, ↓bsE, Nat.reduceAdd, Nat.reduceMul, Nat.reduceSub, Nat.reduceLT, Nat.reduceLeDiff, Nat.reduceEqDiff, ↓reduceIte, decide_true, decide_false, and_true, true_and, and_false, false_and, or_false, false_or, or_true, true_or, not_true_eq_false, not_false_eq_true, eq_self, Nat.zero_add, Nat.add_zero, Nat.mul_zero, Nat.mul_one, Nat.zero_le, Nat.not_lt_zero, bind_sm, bind_sm2, e6, g4', c64_le, h2, e7]
                unfold f_X6_move f_X7_fine
                rw [cpok_n (by omega) (by omega) (by omega) (by omega) (by omega)]
                simp (maxSteps := 400000) (disch := omega) only [n32_lit, n32_add, n32_mul, n32_lt, n32_le, n32_eq, n32_nat, n32_inb, gd_dec, gdE, ↓nmE, ↓jnE, ↓bsE, Nat.reduceAdd, Nat.reduceMul, Nat.reduceSub, Nat.reduceLT, Nat.reduceLeDiff, Nat.reduceEqDiff, ↓reduceIte, decide_true, decide_false, and_true, true_and, and_false, false_and, or_false, false_or, or_true, true_or, not_true_eq_false, not_false_eq_true, eq_self, Nat.zero_add, Nat.add_zero, Nat.mul_zero, Nat.mul_one, Nat.zero_le, Nat.not_lt_zero, bind_sm, bind_sm2, ha, hb]
                refine ⟨_, _, _, _, rfl, rfl, ?_, ?_, ?_⟩
                · intro s y hn
                  unfold PRow at hn
                  rw [h7, if_neg (by omega), up_ap, if_neg (by omega)]
                · intro r hr
                  obtain ⟨g1, g2, ⟨k', g3, g4, g5⟩, g6⟩ := hR r hr
                  rw [h7, if_neg (by omega), h7, if_neg (by omega)]
                  simp (disch := omega) only [up_at, up_ms, up_mi, upA_at, upA_ms]
                  refine ⟨g1, g2, ⟨k', g3, g4, g5⟩, ?_⟩
                  intro y hy
                  rw [h7]
                  by_cases hrb : r = b
                  · subst hrb
                    rw [upA_at]
                    unfold va_cpy
                    by_cases q : j ≤ y ∧ y < j + n
                    · rw [if_pos q, if_pos (by omega)]
                      simp (disch := omega) only [up_at, up_ms, up_mi, upA_at, upA_ms]
                      have := (hR a ha).2.2.2 (i + (y - j)) (by omega)
                      rw [this]
                      congr 1; omega
                    · rw [if_neg q, if_neg (by omega)]
                      simp (disch := omega) only [up_at, up_ms, up_mi, upA_at, upA_ms]
                      exact g6 y hy
                  · rw [if_neg (by omega)]
                    simp (disch := omega) only [up_at, up_ms, up_mi, upA_at, upA_ms]
                    exact g6 y hy
                · rw [h7, if_neg (by omega)]
                  simp (disch := omega) only [up_at, up_ms, up_mi, upA_at, upA_ms]
                  exact hS.set _
              · unfold f_X8_finding
                rcases h2 with h2 | h2 | ⟨j, n', hj, hn', h2, rfl, hn⟩
                · have h' : (x4 < n32 0) = True := eq_true h2
                  simp (maxSteps := 400000) (disch := omega) only [n32_lit, n32_add, n32_mul, n32_lt, n32_le, n32_eq, n32_nat, n32_inb, gd_dec, gdE, ↓nmE, ↓jnE, ↓bsE, Nat.reduceAdd, Nat.reduceMul, Nat.reduceSub, Nat.reduceLT, Nat.reduceLeDiff, Nat.reduceEqDiff, ↓reduceIte, decide_true, decide_false, and_true, true_and, and_false, false_and, or_false, false_or, or_true, true_or, not_true_eq_false, not_false_eq_true, eq_self, Nat.zero_add, Nat.add_zero, Nat.mul_zero, Nat.mul_one, Nat.zero_le, Nat.not_lt_zero, bind_sm, bind_sm2, e6, h']
                  exact fnd
                · rw [n32_lt (by omega) (by decide)] at h2; omega
                · obtain rfl : n = n' := by rw [← n32_eq (a := n) (b := n') (by omega) (by omega)]; exact hn
                  have q2 : ¬ j + n ≤ kb := by omega
                  simp (maxSteps := 400000) (disch := omega) only [n32_lit, n32_add, n32_mul, n32_lt, n32_le, n32_eq, n32_nat, n32_inb, gd_dec, gdE, ↓nmE, ↓jnE, ↓bsE, Nat.reduceAdd, Nat.reduceMul, Nat.reduceSub, Nat.reduceLT, Nat.reduceLeDiff, Nat.reduceEqDiff, ↓reduceIte, decide_true, decide_false, and_true, true_and, and_false, false_and, or_false, false_or, or_true, true_or, not_true_eq_false, not_false_eq_true, eq_self, Nat.zero_add, Nat.add_zero, Nat.mul_zero, Nat.mul_one, Nat.zero_le, Nat.not_lt_zero, bind_sm, bind_sm2, e6, g4', c64_le, q2]
                  exact fnd
            · unfold f_X8_finding
              rcases h1 with h1 | h1 | ⟨i, n, hi, hn, h1, rfl, rfl⟩
              · have h' : (x2 < n32 0) = True := eq_true h1
                simp (maxSteps := 400000) (disch := omega) only [n32_lit, n32_add, n32_mul, n32_lt, n32_le, n32_eq, n32_nat, n32_inb, gd_dec, gdE, ↓nmE, ↓jnE, ↓bsE, Nat.reduceAdd, Nat.reduceMul, Nat.reduceSub, Nat.reduceLT, Nat.reduceLeDiff, Nat.reduceEqDiff, ↓reduceIte, decide_true, decide_false, and_true, true_and, and_false, false_and, or_false, false_or, or_true, true_or, not_true_eq_false, not_false_eq_true, eq_self, Nat.zero_add, Nat.add_zero, Nat.mul_zero, Nat.mul_one, Nat.zero_le, Nat.not_lt_zero, bind_sm, bind_sm2, e5, h']
                exact fnd
              · have h' : (x5 < n32 0) = True := eq_true h1
                simp (maxSteps := 400000) (disch := omega) only [n32_lit, n32_add, n32_mul, n32_lt, n32_le, n32_eq, n32_nat, n32_inb, gd_dec, gdE, ↓nmE, ↓jnE, ↓bsE, Nat.reduceAdd, Nat.reduceMul, Nat.reduceSub, Nat.reduceLT, Nat.reduceLeDiff, Nat.reduceEqDiff, ↓reduceIte, decide_true, decide_false, and_true, true_and, and_false, false_and, or_false, false_or, or_true, true_or, not_true_eq_false, not_false_eq_true, eq_self, Nat.zero_add, Nat.add_zero, Nat.mul_zero, Nat.mul_one, Nat.zero_le, Nat.not_lt_zero, bind_sm, bind_sm2, e5, h']
                by_cases q1 : x2 < n32 0
                · simp (maxSteps := 400000) (disch := omega) only [n32_lit, n32_add, n32_mul, n32_lt, n32_le, n32_eq, n32_nat, n32_inb, gd_dec, gdE, ↓nmE, ↓jnE, ↓bsE, Nat.reduceAdd, Nat.reduceMul, Nat.reduceSub, Nat.reduceLT, Nat.reduceLeDiff, Nat.reduceEqDiff, ↓reduceIte, decide_true, decide_false, and_true, true_and, and_false, false_and, or_false, false_or, or_true, true_or, not_true_eq_false, not_false_eq_true, eq_self, Nat.zero_add, Nat.add_zero, Nat.mul_zero, Nat.mul_one, Nat.zero_le, Nat.not_lt_zero, bind_sm, bind_sm2, q1]; exact fnd
                · by_cases q2 : x4 < n32 0
                  · simp (maxSteps := 400000) (disch := omega) only [n32_lit, n32_add, n32_mul, n32_lt, n32_le, n32_eq, n32_nat, n32_inb, gd_dec, gdE, ↓nmE, ↓jnE, ↓bsE, Nat.reduceAdd, Nat.reduceMul, Nat.reduceSub, Nat.reduceLT, Nat.reduceLeDiff, Nat.reduceEqDiff, ↓reduceIte, decide_true, decide_false, and_true, true_and, and_false, false_and, or_false, false_or, or_true, true_or, not_true_eq_false, not_false_eq_true, eq_self, Nat.zero_add, Nat.add_zero, Nat.mul_zero, Nat.mul_one, Nat.zero_le, Nat.not_lt_zero, bind_sm, bind_sm2, q1, q2]; exact fnd
                  · simp (maxSteps := 400000) (disch := omega) only [n32_lit, n32_add, n32_mul, n32_lt, n32_le, n32_eq, n32_nat, n32_inb, gd_dec, gdE, ↓nmE, ↓jnE, ↓bsE, Nat.reduceAdd, Nat.reduceMul, Nat.reduceSub, Nat.reduceLT, Nat.reduceLeDiff, Nat.reduceEqDiff, ↓reduceIte, decide_true, decide_false, and_true, true_and, and_false, false_and, or_false, false_or, or_true, true_or, not_true_eq_false, not_false_eq_true, eq_self, Nat.zero_add, Nat.add_zero, Nat.mul_zero, Nat.mul_one, Nat.zero_le, Nat.not_lt_zero, bind_sm, bind_sm2, q1, q2]; exact fnd
              · simp (maxSteps := 400000) (disch := omega) only [n32_lit, n32_add, n32_mul, n32_lt, n32_le, n32_eq, n32_nat, n32_inb, gd_dec, gdE, ↓nmE, ↓jnE, ↓bsE, Nat.reduceAdd, Nat.reduceMul, Nat.reduceSub, Nat.reduceLT, Nat.reduceLeDiff, Nat.reduceEqDiff, ↓reduceIte, decide_true, decide_false, and_true, true_and, and_false, false_and, or_false, false_or, or_true, true_or, not_true_eq_false, not_false_eq_true, eq_self, Nat.zero_add, Nat.add_zero, Nat.mul_zero, Nat.mul_one, Nat.zero_le, Nat.not_lt_zero, bind_sm, bind_sm2, e5, g4, c64_gt, h1]
                by_cases q2 : x4 < n32 0
                · simp (maxSteps := 400000) (disch := omega) only [n32_lit, n32_add, n32_mul, n32_lt, n32_le, n32_eq, n32_nat, n32_inb, gd_dec, gdE, ↓nmE, ↓jnE, ↓bsE, Nat.reduceAdd, Nat.reduceMul, Nat.reduceSub, Nat.reduceLT, Nat.reduceLeDiff, Nat.reduceEqDiff, ↓reduceIte, decide_true, decide_false, and_true, true_and, and_false, false_and, or_false, false_or, or_true, true_or, not_true_eq_false, not_false_eq_true, eq_self, Nat.zero_add, Nat.add_zero, Nat.mul_zero, Nat.mul_one, Nat.zero_le, Nat.not_lt_zero, bind_sm, bind_sm2, q2]; exact fnd
                · simp (maxSteps := 400000) (disch := omega) only [n32_lit, n32_add, n32_mul, n32_lt, n32_le, n32_eq, n32_nat, n32_inb, gd_dec, gdE, ↓nmE, ↓jnE, ↓bsE, Nat.reduceAdd, Nat.reduceMul, Nat.reduceSub, Nat.reduceLT, Nat.reduceLeDiff, Nat.reduceEqDiff, ↓reduceIte, decide_true, decide_false, and_true, true_and, and_false, false_and, or_false, false_or, or_true, true_or, not_true_eq_false, not_false_eq_true, eq_self, Nat.zero_add, Nat.add_zero, Nat.mul_zero, Nat.mul_one, Nat.zero_le, Nat.not_lt_zero, bind_sm, bind_sm2, q2]; exact fnd
          · unfold f_X7_found f_X8_finding
            simp (maxSteps := 400000) (disch := omega) only [n32_lit, n32_add, n32_mul, n32_lt, n32_le, n32_eq, n32_nat, n32_inb, gd_dec, gdE, ↓nmE, ↓jnE, ↓bsE, Nat.reduceAdd, Nat.reduceMul, Nat.reduceSub, Nat.reduceLT, Nat.reduceLeDiff, Nat.reduceEqDiff, ↓reduceIte, decide_true, decide_false, and_true, true_and, and_false, false_and, or_false, false_or, or_true, true_or, not_true_eq_false, not_false_eq_true, eq_self, Nat.zero_add, Nat.add_zero, Nat.mul_zero, Nat.mul_one, Nat.zero_le, Nat.not_lt_zero, bind_sm, bind_sm2, hll, up_up]
            exact RowStep.found hR hS _ _
    · rw [e3, e4]
      simp (maxSteps := 400000) (disch := omega) only [n32_lit, n32_add, n32_mul, n32_lt, n32_le, n32_eq, n32_nat, n32_inb, gd_dec, gdE, ↓nmE, ↓jnE, ↓bsE, Nat.reduceAdd, Nat.reduceMul, Nat.reduceSub, Nat.reduceLT, Nat.reduceLeDiff, Nat.reduceEqDiff, ↓reduceIte, decide_true, decide_false, and_true, true_and, and_false, false_and, or_false, false_or, or_true, true_or, not_true_eq_false, not_false_eq_true, eq_self, Nat.zero_add, Nat.add_zero, Nat.mul_zero, Nat.mul_one, Nat.zero_le, Nat.not_lt_zero, bind_sm, bind_sm2]
      exact RowStep.none hR hS _
  · rw [e1, e2]
    simp (maxSteps := 400000) (disch := omega) only [n32_lit, n32_add, n32_mul, n32_lt, n32_le, n32_eq, n32_nat, n32_inb, gd_dec, gdE, ↓nmE, ↓jnE, ↓bsE, Nat.reduceAdd, Nat.reduceMul, Nat.reduceSub, Nat.reduceLT, Nat.reduceLeDiff, Nat.reduceEqDiff, ↓reduceIte, decide_true, decide_false, and_true, true_and, and_false, false_and, or_false, false_or, or_true, true_or, not_true_eq_false, not_false_eq_true, eq_self, Nat.zero_add, Nat.add_zero, Nat.mul_zero, Nat.mul_one, Nat.zero_le, Nat.not_lt_zero, bind_sm, bind_sm2]
    exact RowStep.none hR hS _
