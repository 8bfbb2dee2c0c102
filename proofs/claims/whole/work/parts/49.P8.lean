/-! count, house, fetch -/
theorem t_bits {a : Nat} (h : a < 128) : f_X8_bits (n32 a) = some (n32 (pop7 a)) := by
  have : ∀ a, a < 128 → f_X8_bits (n32 a) = some (n32 (pop7 a)) := by decide +kernel
  exact this a h
section EV
variable {m0 m1 : Mem} {told : Int32} {v : Nat → Nat}
theorem s_count {m4 m5 m6 : Mem} (hE : REv ((up m0 0 0 0) 6) told m1 v) (hR : RRows ((up m0 0 0 0) 3) ((up m0 0 0 0) 4) ((up m0 0 0 0) 5) m5) (hk : m6 0 2 = (up m0 0 0 0) 0 10) (hl : m4 0 1 = (up m0 0 0 0) 0 12) (x : Int32) : Same (f_X7_count m1 m4 m5 m6 x) (f_X8_count m0 x) m0 := by
  unfold f_X7_count f_X8_count Same
  rw [nm_eq]
  generalize hw : up m0 0 0 0 = w at *
  obtain ⟨h1, hv, hc, ht, ht2⟩ := hE
  obtain ⟨⟨h4, h5, h0, h1', h6, h7, hP, hC⟩, hF⟩ := hv
  obtain ⟨c1, c2, c3, c4, c5, c6, c7, c8, c9⟩ := hc.1
  rcases tri x (k := 6) (by decide) with ⟨j, hj, rfl⟩ | q
  · rcases (show j = 0 ∨ j = 1 ∨ j = 2 ∨ j = 3 ∨ j = 4 ∨ j = 5 ∨ j = 6 by omega) with rfl | rfl | rfl | rfl | rfl | rfl | rfl
    · unfold f_X6_present
      simp (disch := omega) only [n32_lit, n32_add, n32_mul, n32_lt, n32_le, n32_eq, n32_nat, n32_inb, gd_dec, gd_one, nm_eq, jn_eq, Option.bind_some, Nat.reduceAdd, Nat.reduceMul, Nat.reduceSub, Nat.reduceLT, Nat.reduceLeDiff, Nat.reduceEqDiff, ↓reduceIte, decide_true, decide_false, and_true, true_and, and_false, false_and, or_false, false_or, or_true, true_or, not_true_eq_false, not_false_eq_true, eq_self, Nat.zero_add, Nat.add_zero, Nat.mul_zero, Nat.mul_one, Nat.zero_le, Nat.not_lt_zero, bind_sm, bind_sm2]
      refine same_of_ok2 ?_
      refine loop_two (S7 := Int32) (S8 := Int32) (fun t u s => f_X6_present_L4 _ m5 t s u) (fun t u s => f_X8_count_L54 _ w t s u) 8 (fun i s s' => ∃ a, a ≤ i ∧ s = n32 a ∧ s' = n32 a) _ ?_ ?_ 8 0 (n32 0) (n32 0) 100000 100000 (by omega) (by omega) (by omega) ⟨0, by omega, rfl, rfl⟩
      · intro t t' s s' ⟨a, ha, es, es'⟩
        refine ok2_eq (f_X6_present_L4.eq_2 _ _ _ _ _) (f_X8_count_L54.eq_2 _ _ _ _ _) ?_
        subst es es'
        simp (disch := omega) only [n32_lit, n32_add, n32_mul, n32_lt, n32_le, n32_eq, n32_nat, n32_inb, gd_dec, gd_one, nm_eq, jn_eq, Option.bind_some, Nat.reduceAdd, Nat.reduceMul, Nat.reduceSub, Nat.reduceLT, Nat.reduceLeDiff, Nat.reduceEqDiff, ↓reduceIte, decide_true, decide_false, and_true, true_and, and_false, false_and, or_false, false_or, or_true, true_or, not_true_eq_false, not_false_eq_true, eq_self, Nat.zero_add, Nat.add_zero, Nat.mul_zero, Nat.mul_one, Nat.zero_le, Nat.not_lt_zero, bind_sm, bind_sm2]
        exact ok2_some rfl
      · intro i t t' s s' hi ⟨a, ha, es, es'⟩
        left
        obtain ⟨r1, r2, -, -⟩ := hR i hi
        have hn : ¬ 8 ≤ i := by omega
        subst es es'
        by_cases z : w 3 i = -1
        · refine ⟨n32 a, n32 a, ⟨a, by omega, rfl, rfl⟩, ?_, ?_⟩
          · refine Eq.trans (f_X6_present_L4.eq_2 _ _ _ _ _) ?_
            unfold f_X6_isMissing
            rw [n32_nat (by omega), r2, z]
            simp (disch := omega) only [n32_lit, n32_add, n32_mul, n32_lt, n32_le, n32_eq, n32_nat, n32_inb, gd_dec, gd_one, nm_eq, jn_eq, Option.bind_some, Nat.reduceAdd, Nat.reduceMul, Nat.reduceSub, Nat.reduceLT, Nat.reduceLeDiff, Nat.reduceEqDiff, ↓reduceIte, decide_true, decide_false, and_true, true_and, and_false, false_and, or_false, false_or, or_true, true_or, not_true_eq_false, not_false_eq_true, eq_self, Nat.zero_add, Nat.add_zero, Nat.mul_zero, Nat.mul_one, Nat.zero_le, Nat.not_lt_zero, bind_sm, bind_sm2, hn]
          · refine Eq.trans (f_X8_count_L54.eq_2 _ _ _ _ _) ?_
            rw [n32_nat (by omega), z]
            have : ((-1 : Int32) < n32 0) = True := eq_true (by decide)
            simp (disch := omega) only [n32_lit, n32_add, n32_mul, n32_lt, n32_le, n32_eq, n32_nat, n32_inb, gd_dec, gd_one, nm_eq, jn_eq, Option.bind_some, Nat.reduceAdd, Nat.reduceMul, Nat.reduceSub, Nat.reduceLT, Nat.reduceLeDiff, Nat.reduceEqDiff, ↓reduceIte, decide_true, decide_false, and_true, true_and, and_false, false_and, or_false, false_or, or_true, true_or, not_true_eq_false, not_false_eq_true, eq_self, Nat.zero_add, Nat.add_zero, Nat.mul_zero, Nat.mul_one, Nat.zero_le, Nat.not_lt_zero, bind_sm, bind_sm2, hn, this]
            rfl
        · refine ⟨n32 (a + 1), n32 (a + 1), ⟨a + 1, by omega, rfl, rfl⟩, ?_, ?_⟩
          · refine Eq.trans (f_X6_present_L4.eq_2 _ _ _ _ _) ?_
            unfold f_X6_isMissing
            rw [n32_nat (by omega), r2]
            simp (disch := omega) only [n32_lit, n32_add, n32_mul, n32_lt, n32_le, n32_eq, n32_nat, n32_inb, gd_dec, gd_one, nm_eq, jn_eq, Option.bind_some, Nat.reduceAdd, Nat.reduceMul, Nat.reduceSub, Nat.reduceLT, Nat.reduceLeDiff, Nat.reduceEqDiff, ↓reduceIte, decide_true, decide_false, and_true, true_and, and_false, false_and, or_false, false_or, or_true, true_or, not_true_eq_false, not_false_eq_true, eq_self, Nat.zero_add, Nat.add_zero, Nat.mul_zero, Nat.mul_one, Nat.zero_le, Nat.not_lt_zero, bind_sm, bind_sm2, hn]
            have z' : ¬ w 3 i = -n32 1 := z
            rw [if_neg z']
            simp (disch := omega) only [n32_lit, n32_add, n32_mul, n32_lt, n32_le, n32_eq, n32_nat, n32_inb, gd_dec, gd_one, nm_eq, jn_eq, Option.bind_some, Nat.reduceAdd, Nat.reduceMul, Nat.reduceSub, Nat.reduceLT, Nat.reduceLeDiff, Nat.reduceEqDiff, ↓reduceIte, decide_true, decide_false, and_true, true_and, and_false, false_and, or_false, false_or, or_true, true_or, not_true_eq_false, not_false_eq_true, eq_self, Nat.zero_add, Nat.add_zero, Nat.mul_zero, Nat.mul_one, Nat.zero_le, Nat.not_lt_zero, bind_sm, bind_sm2]
          · refine Eq.trans (f_X8_count_L54.eq_2 _ _ _ _ _) ?_
            rw [n32_nat (by omega)]
            have : (w 3 i < n32 0) = False := by
              rcases r1 with r | r | r | r
              · exact absurd r z
              · rw [r]; exact eq_false (by decide)
              · rw [r]; exact eq_false (by decide)
              · rw [r]; exact eq_false (by decide)
            simp (disch := omega) only [n32_lit, n32_add, n32_mul, n32_lt, n32_le, n32_eq, n32_nat, n32_inb, gd_dec, gd_one, nm_eq, jn_eq, Option.bind_some, Nat.reduceAdd, Nat.reduceMul, Nat.reduceSub, Nat.reduceLT, Nat.reduceLeDiff, Nat.reduceEqDiff, ↓reduceIte, decide_true, decide_false, and_true, true_and, and_false, false_and, or_false, false_or, or_true, true_or, not_true_eq_false, not_false_eq_true, eq_self, Nat.zero_add, Nat.add_zero, Nat.mul_zero, Nat.mul_one, Nat.zero_le, Nat.not_lt_zero, bind_sm, bind_sm2, hn, this]
    · simp (disch := omega) only [n32_lit, n32_add, n32_mul, n32_lt, n32_le, n32_eq, n32_nat, n32_inb, gd_dec, gd_one, nm_eq, jn_eq, Option.bind_some, Nat.reduceAdd, Nat.reduceMul, Nat.reduceSub, Nat.reduceLT, Nat.reduceLeDiff, Nat.reduceEqDiff, ↓reduceIte, decide_true, decide_false, and_true, true_and, and_false, false_and, or_false, false_or, or_true, true_or, not_true_eq_false, not_false_eq_true, eq_self, Nat.zero_add, Nat.add_zero, Nat.mul_zero, Nat.mul_one, Nat.zero_le, Nat.not_lt_zero, bind_sm, bind_sm2, c4, h1 4 (by decide), show n32 4 + n32 1 - n32 1 = n32 4 from rfl, show n32 5 - n32 1 = n32 4 from rfl]
      exact ⟨_, rfl, rfl⟩
    · simp (disch := omega) only [n32_lit, n32_add, n32_mul, n32_lt, n32_le, n32_eq, n32_nat, n32_inb, gd_dec, gd_one, nm_eq, jn_eq, Option.bind_some, Nat.reduceAdd, Nat.reduceMul, Nat.reduceSub, Nat.reduceLT, Nat.reduceLeDiff, Nat.reduceEqDiff, ↓reduceIte, decide_true, decide_false, and_true, true_and, and_false, false_and, or_false, false_or, or_true, true_or, not_true_eq_false, not_false_eq_true, eq_self, Nat.zero_add, Nat.add_zero, Nat.mul_zero, Nat.mul_one, Nat.zero_le, Nat.not_lt_zero, bind_sm, bind_sm2, c5, h1 5 (by decide), show n32 6 - n32 1 = n32 5 from rfl]
      exact ⟨_, rfl, rfl⟩
    · simp (disch := omega) only [n32_lit, n32_add, n32_mul, n32_lt, n32_le, n32_eq, n32_nat, n32_inb, gd_dec, gd_one, nm_eq, jn_eq, Option.bind_some, Nat.reduceAdd, Nat.reduceMul, Nat.reduceSub, Nat.reduceLT, Nat.reduceLeDiff, Nat.reduceEqDiff, ↓reduceIte, decide_true, decide_false, and_true, true_and, and_false, false_and, or_false, false_or, or_true, true_or, not_true_eq_false, not_false_eq_true, eq_self, Nat.zero_add, Nat.add_zero, Nat.mul_zero, Nat.mul_one, Nat.zero_le, Nat.not_lt_zero, bind_sm, bind_sm2, c3, h1 6 (by decide), show n32 7 - n32 1 = n32 6 from rfl]
      exact ⟨_, rfl, rfl⟩
    · simp (disch := omega) only [n32_lit, n32_add, n32_mul, n32_lt, n32_le, n32_eq, n32_nat, n32_inb, gd_dec, gd_one, nm_eq, jn_eq, Option.bind_some, Nat.reduceAdd, Nat.reduceMul, Nat.reduceSub, Nat.reduceLT, Nat.reduceLeDiff, Nat.reduceEqDiff, ↓reduceIte, decide_true, decide_false, and_true, true_and, and_false, false_and, or_false, false_or, or_true, true_or, not_true_eq_false, not_false_eq_true, eq_self, Nat.zero_add, Nat.add_zero, Nat.mul_zero, Nat.mul_one, Nat.zero_le, Nat.not_lt_zero, bind_sm, bind_sm2, hk]
      exact ⟨_, rfl, rfl⟩
    · unfold f_X3_glassesInAll
      simp (disch := omega) only [n32_lit, n32_add, n32_mul, n32_lt, n32_le, n32_eq, n32_nat, n32_inb, gd_dec, gd_one, nm_eq, jn_eq, Option.bind_some, Nat.reduceAdd, Nat.reduceMul, Nat.reduceSub, Nat.reduceLT, Nat.reduceLeDiff, Nat.reduceEqDiff, ↓reduceIte, decide_true, decide_false, and_true, true_and, and_false, false_and, or_false, false_or, or_true, true_or, not_true_eq_false, not_false_eq_true, eq_self, Nat.zero_add, Nat.add_zero, Nat.mul_zero, Nat.mul_one, Nat.zero_le, Nat.not_lt_zero, bind_sm, bind_sm2]
      refine same_of_ok2 ?_
      refine loop_two (S7 := Int32) (S8 := Int32) (fun t u s => f_X3_glassesInAll_L4 _ m1 t s u) (fun t u s => f_X8_count_L103 _ w t s u) (v 4) (fun i s s' => s = s') _ ?_ ?_ (v 4) 0 (n32 0) (n32 0) 100000 100000 (by omega) (by omega) (by omega) rfl
      · intro t t' s s' e
        refine ok2_eq (f_X3_glassesInAll_L4.eq_2 _ _ _ _ _) (f_X8_count_L103.eq_2 _ _ _ _ _) ?_
        subst e
        simp (disch := omega) only [n32_lit, n32_add, n32_mul, n32_lt, n32_le, n32_eq, n32_nat, n32_inb, gd_dec, gd_one, nm_eq, jn_eq, Option.bind_some, Nat.reduceAdd, Nat.reduceMul, Nat.reduceSub, Nat.reduceLT, Nat.reduceLeDiff, Nat.reduceEqDiff, ↓reduceIte, decide_true, decide_false, and_true, true_and, and_false, false_and, or_false, false_or, or_true, true_or, not_true_eq_false, not_false_eq_true, eq_self, Nat.zero_add, Nat.add_zero, Nat.mul_zero, Nat.mul_one, Nat.zero_le, Nat.not_lt_zero, bind_sm, bind_sm2, c4, h1 4 (by decide), Nat.le_refl]
        exact ok2_some rfl
      · intro i t t' s s' hi e
        left
        subst e
        have hn : ¬ v 4 ≤ i := by omega
        have e4 := t_of (k := 2) h1 (p := i) (by omega) (by omega)
        obtain ⟨a1, a2, a3, a4⟩ := c8 i hi
        refine ⟨s + n32 (v (72 + 4 * i + 2)), s + n32 (v (72 + 4 * i + 2)), rfl, ?_, ?_⟩
        · refine Eq.trans (f_X3_glassesInAll_L4.eq_2 _ _ _ _ _) ?_
          simp (disch := omega) only [n32_lit, n32_add, n32_mul, n32_lt, n32_le, n32_eq, n32_nat, n32_inb, gd_dec, gd_one, nm_eq, jn_eq, Option.bind_some, Nat.reduceAdd, Nat.reduceMul, Nat.reduceSub, Nat.reduceLT, Nat.reduceLeDiff, Nat.reduceEqDiff, ↓reduceIte, decide_true, decide_false, and_true, true_and, and_false, false_and, or_false, false_or, or_true, true_or, not_true_eq_false, not_false_eq_true, eq_self, Nat.zero_add, Nat.add_zero, Nat.mul_zero, Nat.mul_one, Nat.zero_le, Nat.not_lt_zero, bind_sm, bind_sm2, c4, hn, a3]
        · refine Eq.trans (f_X8_count_L103.eq_2 _ _ _ _ _) ?_
          simp (disch := omega) only [n32_lit, n32_add, n32_mul, n32_lt, n32_le, n32_eq, n32_nat, n32_inb, gd_dec, gd_one, nm_eq, jn_eq, Option.bind_some, Nat.reduceAdd, Nat.reduceMul, Nat.reduceSub, Nat.reduceLT, Nat.reduceLeDiff, Nat.reduceEqDiff, ↓reduceIte, decide_true, decide_false, and_true, true_and, and_false, false_and, or_false, false_or, or_true, true_or, not_true_eq_false, not_false_eq_true, eq_self, Nat.zero_add, Nat.add_zero, Nat.mul_zero, Nat.mul_one, Nat.zero_le, Nat.not_lt_zero, bind_sm, bind_sm2, h1 4 (by decide), hn, e4]
    · simp (disch := omega) only [n32_lit, n32_add, n32_mul, n32_lt, n32_le, n32_eq, n32_nat, n32_inb, gd_dec, gd_one, nm_eq, jn_eq, Option.bind_some, Nat.reduceAdd, Nat.reduceMul, Nat.reduceSub, Nat.reduceLT, Nat.reduceLeDiff, Nat.reduceEqDiff, ↓reduceIte, decide_true, decide_false, and_true, true_and, and_false, false_and, or_false, false_or, or_true, true_or, not_true_eq_false, not_false_eq_true, eq_self, Nat.zero_add, Nat.add_zero, Nat.mul_zero, Nat.mul_one, Nat.zero_le, Nat.not_lt_zero, bind_sm, bind_sm2, hl]
      exact ⟨_, rfl, rfl⟩
  · have hne := ne_of_out (by decide) q
    simp (disch := omega) only [n32_lit, n32_add, n32_mul, n32_lt, n32_le, n32_eq, n32_nat, n32_inb, gd_dec, gd_one, nm_eq, jn_eq, Option.bind_some, Nat.reduceAdd, Nat.reduceMul, Nat.reduceSub, Nat.reduceLT, Nat.reduceLeDiff, Nat.reduceEqDiff, ↓reduceIte, decide_true, decide_false, and_true, true_and, and_false, false_and, or_false, false_or, or_true, true_or, not_true_eq_false, not_false_eq_true, eq_self, Nat.zero_add, Nat.add_zero, Nat.mul_zero, Nat.mul_one, Nat.zero_le, Nat.not_lt_zero, bind_sm, bind_sm2, hne 0 (by decide), hne 1 (by decide), hne 2 (by decide), hne 3 (by decide), hne 4 (by decide), hne 5 (by decide), hne 6 (by decide)]
    exact ⟨_, rfl, rfl⟩
end EV
