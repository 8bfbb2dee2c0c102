/-! more calls that only look -/
theorem in_yes {n k : Nat} {b : Int64} (hb : b = (n32 k).toInt64) (hn : n ≤ k) (hk : k < 2147483648) : f_X8_in (n32 n).toInt64 0 b = some (n32 1) := by
  refine (t_in0 (k := k) hb hk).trans ?_
  rw [if_pos ⟨by rw [n32_le (by decide) (by omega)]; omega, by rw [n32_le (by omega) hk]; exact hn⟩]
theorem in_no {x : Int32} {k : Nat} {b : Int64} (hb : b = (n32 k).toInt64) (hk : k < 2147483648) (h : x < n32 0 ∨ n32 k < x) : f_X8_in x.toInt64 0 b = some (n32 0) := by
  refine (t_in0 (k := k) hb hk).trans ?_
  rw [if_neg]
  intro q
  rcases h with h | h
  · rw [← i32_nle] at h; exact h q.1
  · rw [← i32_nle] at h; exact h q.2
/-- small, below, or above -/
theorem tri (x : Int32) {k : Nat} (hk : k < 2147483648) : (∃ n, n ≤ k ∧ x = n32 n) ∨ (x < n32 0 ∨ n32 k < x) := by
  rcases rng x hk with ⟨n, a, b, -⟩ | ⟨-, b⟩
  · exact Or.inl ⟨n, a, b⟩
  · exact Or.inr b
theorem ne_of_out {x : Int32} {k : Nat} (hk : k < 2147483648) (h : x < n32 0 ∨ n32 k < x) : ∀ j, j ≤ k → (x = n32 j) = False := by
  intro j hj
  refine eq_false (fun z => ?_)
  rw [z, n32_lt (by omega) (by decide), n32_lt hk (by omega)] at h
  omega
section EV
variable {m0 m1 : Mem} {told : Int32} {v : Nat → Nat}
theorem s_car (hE : REv ((up m0 0 0 0) 6) told m1 v) (x y : Int32) : Same (f_X7_car m1 x y) (f_X8_car m0 x y) m0 := by
  unfold f_X7_car f_X8_car Same
  rw [nm_eq]
  generalize hw : up m0 0 0 0 = w at hE ⊢
  have hE' := hE
  obtain ⟨h1, hv, hc, -, -⟩ := hE'
  rcases b_car hE x with ⟨p, hp, rfl, e1, e2⟩ | ⟨e1, e2⟩
  · have h7 : v 5 ≤ 3 := hv.1.2.1
    obtain ⟨a1, a2, a3⟩ := hc.1.2.2.2.2.2.2.2.2 p hp
    rw [e1, e2]
    rcases tri y (k := 2) (by decide) with ⟨n, hn, rfl⟩ | q
    · rw [in_yes (b := 2) (k := 2) rfl hn (by decide)]
      rcases (show n = 0 ∨ n = 1 ∨ n = 2 by omega) with rfl | rfl | rfl
      · have e4 := t_car0 (k := 0) h1 (c := p) (by omega) (by omega)
        simp (disch := omega) only [n32_lit, n32_add, n32_mul, n32_lt, n32_le, n32_eq, n32_nat, n32_inb, gd_dec, gd_one, nm_eq, jn_eq, Option.bind_some, Nat.reduceAdd, Nat.reduceMul, Nat.reduceSub, Nat.reduceLT, Nat.reduceLeDiff, Nat.reduceEqDiff, ↓reduceIte, decide_true, decide_false, and_true, true_and, and_false, false_and, or_false, false_or, or_true, true_or, not_true_eq_false, not_false_eq_true, eq_self, Nat.zero_add, Nat.add_zero, Nat.mul_zero, Nat.mul_one, Nat.zero_le, Nat.not_lt_zero, bind_sm, bind_sm2, e4, a1]
        exact ⟨_, rfl, rfl⟩
      · have e4 := t_car0 (k := 1) h1 (c := p) (by omega) (by omega)
        simp (disch := omega) only [n32_lit, n32_add, n32_mul, n32_lt, n32_le, n32_eq, n32_nat, n32_inb, gd_dec, gd_one, nm_eq, jn_eq, Option.bind_some, Nat.reduceAdd, Nat.reduceMul, Nat.reduceSub, Nat.reduceLT, Nat.reduceLeDiff, Nat.reduceEqDiff, ↓reduceIte, decide_true, decide_false, and_true, true_and, and_false, false_and, or_false, false_or, or_true, true_or, not_true_eq_false, not_false_eq_true, eq_self, Nat.zero_add, Nat.add_zero, Nat.mul_zero, Nat.mul_one, Nat.zero_le, Nat.not_lt_zero, bind_sm, bind_sm2, e4, a2]
        exact ⟨_, rfl, rfl⟩
      · have e4 := t_car0 (k := 2) h1 (c := p) (by omega) (by omega)
        simp (disch := omega) only [n32_lit, n32_add, n32_mul, n32_lt, n32_le, n32_eq, n32_nat, n32_inb, gd_dec, gd_one, nm_eq, jn_eq, Option.bind_some, Nat.reduceAdd, Nat.reduceMul, Nat.reduceSub, Nat.reduceLT, Nat.reduceLeDiff, Nat.reduceEqDiff, ↓reduceIte, decide_true, decide_false, and_true, true_and, and_false, false_and, or_false, false_or, or_true, true_or, not_true_eq_false, not_false_eq_true, eq_self, Nat.zero_add, Nat.add_zero, Nat.mul_zero, Nat.mul_one, Nat.zero_le, Nat.not_lt_zero, bind_sm, bind_sm2, e4, a3]
        exact ⟨_, rfl, rfl⟩
    · rw [in_no (b := 2) (k := 2) rfl (by decide) q]
      have hne := ne_of_out (by decide) q
      simp (disch := omega) only [n32_lit, n32_add, n32_mul, n32_lt, n32_le, n32_eq, n32_nat, n32_inb, gd_dec, gd_one, nm_eq, jn_eq, Option.bind_some, Nat.reduceAdd, Nat.reduceMul, Nat.reduceSub, Nat.reduceLT, Nat.reduceLeDiff, Nat.reduceEqDiff, ↓reduceIte, decide_true, decide_false, and_true, true_and, and_false, false_and, or_false, false_or, or_true, true_or, not_true_eq_false, not_false_eq_true, eq_self, Nat.zero_add, Nat.add_zero, Nat.mul_zero, Nat.mul_one, Nat.zero_le, Nat.not_lt_zero, bind_sm, bind_sm2, hne 0 (by decide), hne 1 (by decide), hne 2 (by decide)]
      exact ⟨_, rfl, rfl⟩
  · rw [e1, e2]
    simp (disch := omega) only [n32_lit, n32_add, n32_mul, n32_lt, n32_le, n32_eq, n32_nat, n32_inb, gd_dec, gd_one, nm_eq, jn_eq, Option.bind_some, Nat.reduceAdd, Nat.reduceMul, Nat.reduceSub, Nat.reduceLT, Nat.reduceLeDiff, Nat.reduceEqDiff, ↓reduceIte, decide_true, decide_false, and_true, true_and, and_false, false_and, or_false, false_or, or_true, true_or, not_true_eq_false, not_false_eq_true, eq_self, Nat.zero_add, Nat.add_zero, Nat.mul_zero, Nat.mul_one, Nat.zero_le, Nat.not_lt_zero, bind_sm, bind_sm2]
    exact ⟨_, rfl, rfl⟩
theorem s_kind (hE : REv ((up m0 0 0 0) 6) told m1 v) (x : Int32) : Same (f_X7_kind m1 x) (f_X8_kind m0 x) m0 := by
  unfold f_X7_kind f_X8_kind Same
  rw [nm_eq]
  generalize hw : up m0 0 0 0 = w at hE ⊢
  have hE' := hE
  obtain ⟨h1, hv, hc, -, -⟩ := hE'
  rcases b_person hE x with ⟨p, hp, rfl, e1, e2⟩ | ⟨e1, e2⟩
  · have h7 : v 4 ≤ 7 := hv.1.1
    obtain ⟨a1, a2, a3, a4⟩ := hc.1.2.2.2.2.2.2.2.1 p hp
    have e4 := t_of (k := 0) h1 (p := p) (by omega) (by omega)
    rw [e1, e2]
    simp (disch := omega) only [n32_lit, n32_add, n32_mul, n32_lt, n32_le, n32_eq, n32_nat, n32_inb, gd_dec, gd_one, nm_eq, jn_eq, Option.bind_some, Nat.reduceAdd, Nat.reduceMul, Nat.reduceSub, Nat.reduceLT, Nat.reduceLeDiff, Nat.reduceEqDiff, ↓reduceIte, decide_true, decide_false, and_true, true_and, and_false, false_and, or_false, false_or, or_true, true_or, not_true_eq_false, not_false_eq_true, eq_self, Nat.zero_add, Nat.add_zero, Nat.mul_zero, Nat.mul_one, Nat.zero_le, Nat.not_lt_zero, bind_sm, bind_sm2, e4, a1]
    exact ⟨_, rfl, rfl⟩
  · rw [e1, e2]
    simp (disch := omega) only [n32_lit, n32_add, n32_mul, n32_lt, n32_le, n32_eq, n32_nat, n32_inb, gd_dec, gd_one, nm_eq, jn_eq, Option.bind_some, Nat.reduceAdd, Nat.reduceMul, Nat.reduceSub, Nat.reduceLT, Nat.reduceLeDiff, Nat.reduceEqDiff, ↓reduceIte, decide_true, decide_false, and_true, true_and, and_false, false_and, or_false, false_or, or_true, true_or, not_true_eq_false, not_false_eq_true, eq_self, Nat.zero_add, Nat.add_zero, Nat.mul_zero, Nat.mul_one, Nat.zero_le, Nat.not_lt_zero, bind_sm, bind_sm2]
    exact ⟨_, rfl, rfl⟩
theorem s_may (hE : REv ((up m0 0 0 0) 6) told m1 v) (x y z : Int32) : Same (f_X7_may m1 x y z) (f_X8_may m0 x y z) m0 := by
  unfold f_X7_may f_X8_may Same
  rw [nm_eq]
  generalize hw : up m0 0 0 0 = w at hE ⊢
  have hE' := hE
  obtain ⟨h1, hv, hc, -, -⟩ := hE'
  rcases b_person hE x with ⟨p, hp, rfl, e1, e2⟩ | ⟨e1, e2⟩
  · have h7 : v 4 ≤ 7 := hv.1.1
    obtain ⟨a1, a2, a3, a4⟩ := hc.1.2.2.2.2.2.2.2.1 p hp
    have hg := (hv.1.2.2.2.2.2.2.1 p hp).2.2.2.2.1
    have e4 := t_of (k := 2) h1 (p := p) (by omega) (by omega)
    rw [e1, e2]
    rcases b_min y with ⟨n, hn, rfl, e5, e6⟩ | ⟨e5, e6⟩
    · rw [e5, e6]
      rcases tri z (k := 1) (by decide) with ⟨j, hj, rfl⟩ | q
      · rw [in_yes (b := 1) (k := 1) rfl hj (by decide)]
        have d1 := t_drunk h1 hv.1.2.2.2.1 (g := v (72 + 4 * p + 2)) (mn := n) (by omega) hn
        have d2 := t_drunkAfter hc hv.1.2.2.2.1 (g := v (72 + 4 * p + 2)) (mn := n) (by omega) hn
        have d3 := t_mayDrive h1 hv hp (g := v (72 + 4 * p + 2)) (mn := n) (by omega) hn
        have d4 := t_mayDriveC hc hv hp (g := v (72 + 4 * p + 2)) (mn := n) (by omega) hn
        rcases (show j = 0 ∨ j = 1 by omega) with rfl | rfl
        · simp (disch := omega) only [n32_lit, n32_add, n32_mul, n32_lt, n32_le, n32_eq, n32_nat, n32_inb, gd_dec, gd_one, nm_eq, jn_eq, Option.bind_some, Nat.reduceAdd, Nat.reduceMul, Nat.reduceSub, Nat.reduceLT, Nat.reduceLeDiff, Nat.reduceEqDiff, ↓reduceIte, decide_true, decide_false, and_true, true_and, and_false, false_and, or_false, false_or, or_true, true_or, not_true_eq_false, not_false_eq_true, eq_self, Nat.zero_add, Nat.add_zero, Nat.mul_zero, Nat.mul_one, Nat.zero_le, Nat.not_lt_zero, bind_sm, bind_sm2, e4, a3, d1, d2]
          exact ⟨_, rfl, rfl⟩
        · simp (disch := omega) only [n32_lit, n32_add, n32_mul, n32_lt, n32_le, n32_eq, n32_nat, n32_inb, gd_dec, gd_one, nm_eq, jn_eq, Option.bind_some, Nat.reduceAdd, Nat.reduceMul, Nat.reduceSub, Nat.reduceLT, Nat.reduceLeDiff, Nat.reduceEqDiff, ↓reduceIte, decide_true, decide_false, and_true, true_and, and_false, false_and, or_false, false_or, or_true, true_or, not_true_eq_false, not_false_eq_true, eq_self, Nat.zero_add, Nat.add_zero, Nat.mul_zero, Nat.mul_one, Nat.zero_le, Nat.not_lt_zero, bind_sm, bind_sm2, e4, a3, d3, d4]
          have : md v p (v (72 + 4 * p + 2)) n = 0 ∨ md v p (v (72 + 4 * p + 2)) n = 1 := by unfold md; (repeat' split) <;> simp
          rcases this with z | z <;> rw [z]
          · simp (disch := omega) only [n32_lit, n32_add, n32_mul, n32_lt, n32_le, n32_eq, n32_nat, n32_inb, gd_dec, gd_one, nm_eq, jn_eq, Option.bind_some, Nat.reduceAdd, Nat.reduceMul, Nat.reduceSub, Nat.reduceLT, Nat.reduceLeDiff, Nat.reduceEqDiff, ↓reduceIte, decide_true, decide_false, and_true, true_and, and_false, false_and, or_false, false_or, or_true, true_or, not_true_eq_false, not_false_eq_true, eq_self, Nat.zero_add, Nat.add_zero, Nat.mul_zero, Nat.mul_one, Nat.zero_le, Nat.not_lt_zero, bind_sm, bind_sm2]
            exact ⟨_, rfl, rfl⟩
          · simp (disch := omega) only [n32_lit, n32_add, n32_mul, n32_lt, n32_le, n32_eq, n32_nat, n32_inb, gd_dec, gd_one, nm_eq, jn_eq, Option.bind_some, Nat.reduceAdd, Nat.reduceMul, Nat.reduceSub, Nat.reduceLT, Nat.reduceLeDiff, Nat.reduceEqDiff, ↓reduceIte, decide_true, decide_false, and_true, true_and, and_false, false_and, or_false, false_or, or_true, true_or, not_true_eq_false, not_false_eq_true, eq_self, Nat.zero_add, Nat.add_zero, Nat.mul_zero, Nat.mul_one, Nat.zero_le, Nat.not_lt_zero, bind_sm, bind_sm2]
            exact ⟨_, rfl, rfl⟩
      · rw [in_no (b := 1) (k := 1) rfl (by decide) q]
        by_cases z0 : z < n32 0
        · simp (disch := omega) only [n32_lit, n32_add, n32_mul, n32_lt, n32_le, n32_eq, n32_nat, n32_inb, gd_dec, gd_one, nm_eq, jn_eq, Option.bind_some, Nat.reduceAdd, Nat.reduceMul, Nat.reduceSub, Nat.reduceLT, Nat.reduceLeDiff, Nat.reduceEqDiff, ↓reduceIte, decide_true, decide_false, and_true, true_and, and_false, false_and, or_false, false_or, or_true, true_or, not_true_eq_false, not_false_eq_true, eq_self, Nat.zero_add, Nat.add_zero, Nat.mul_zero, Nat.mul_one, Nat.zero_le, Nat.not_lt_zero, bind_sm, bind_sm2, z0]
          exact ⟨_, rfl, rfl⟩
        · have z1 : n32 1 < z := q.resolve_left z0
          have z2 : (z ≤ n32 1) = False := eq_false (by rw [i32_nle]; exact z1)
          simp (disch := omega) only [n32_lit, n32_add, n32_mul, n32_lt, n32_le, n32_eq, n32_nat, n32_inb, gd_dec, gd_one, nm_eq, jn_eq, Option.bind_some, Nat.reduceAdd, Nat.reduceMul, Nat.reduceSub, Nat.reduceLT, Nat.reduceLeDiff, Nat.reduceEqDiff, ↓reduceIte, decide_true, decide_false, and_true, true_and, and_false, false_and, or_false, false_or, or_true, true_or, not_true_eq_false, not_false_eq_true, eq_self, Nat.zero_add, Nat.add_zero, Nat.mul_zero, Nat.mul_one, Nat.zero_le, Nat.not_lt_zero, bind_sm, bind_sm2, z0, z2]
          exact ⟨_, rfl, rfl⟩
    · rw [e5, e6]
      simp (disch := omega) only [n32_lit, n32_add, n32_mul, n32_lt, n32_le, n32_eq, n32_nat, n32_inb, gd_dec, gd_one, nm_eq, jn_eq, Option.bind_some, Nat.reduceAdd, Nat.reduceMul, Nat.reduceSub, Nat.reduceLT, Nat.reduceLeDiff, Nat.reduceEqDiff, ↓reduceIte, decide_true, decide_false, and_true, true_and, and_false, false_and, or_false, false_or, or_true, true_or, not_true_eq_false, not_false_eq_true, eq_self, Nat.zero_add, Nat.add_zero, Nat.mul_zero, Nat.mul_one, Nat.zero_le, Nat.not_lt_zero, bind_sm, bind_sm2]
      exact ⟨_, rfl, rfl⟩
  · rw [e1, e2]
    simp (disch := omega) only [n32_lit, n32_add, n32_mul, n32_lt, n32_le, n32_eq, n32_nat, n32_inb, gd_dec, gd_one, nm_eq, jn_eq, Option.bind_some, Nat.reduceAdd, Nat.reduceMul, Nat.reduceSub, Nat.reduceLT, Nat.reduceLeDiff, Nat.reduceEqDiff, ↓reduceIte, decide_true, decide_false, and_true, true_and, and_false, false_and, or_false, false_or, or_true, true_or, not_true_eq_false, not_false_eq_true, eq_self, Nat.zero_add, Nat.add_zero, Nat.mul_zero, Nat.mul_one, Nat.zero_le, Nat.not_lt_zero, bind_sm, bind_sm2]
    exact ⟨_, rfl, rfl⟩
theorem t_between (h : Cl m1 v) {a b : Nat} (ha : a < 8) (hb : b < 8) : f_X3_minutesBetween m1 (n32 a) (n32 b) = some (n32 (farC (v (8 + 8 * a + b)))) := by
  unfold f_X3_minutesBetween
  simp (disch := omega) only [n32_lit, n32_add, n32_mul, n32_lt, n32_le, n32_eq, n32_nat, n32_inb, gd_dec, gd_one, nm_eq, jn_eq, Option.bind_some, Nat.reduceAdd, Nat.reduceMul, Nat.reduceSub, Nat.reduceLT, Nat.reduceLeDiff, Nat.reduceEqDiff, ↓reduceIte, decide_true, decide_false, and_true, true_and, and_false, false_and, or_false, false_or, or_true, true_or, not_true_eq_false, not_false_eq_true, eq_self, Nat.zero_add, Nat.add_zero, Nat.mul_zero, Nat.mul_one, Nat.zero_le, Nat.not_lt_zero, bind_sm, bind_sm2, h.2 (a * 8 + b) (by omega)]
  rw [show 8 + (a * 8 + b) = 8 + 8 * a + b by omega]
theorem farC_lt {x : Nat} (h : x ≤ 900 ∨ x = 10000) : (1000000 ≤ farC x) = (10000 ≤ x) ∧ farC x < 2147483648 := by
  unfold farC
  by_cases h2 : x < 10000
  · rw [if_pos h2]; exact ⟨propext (by omega), by omega⟩
  · rw [if_neg h2]; exact ⟨propext (by omega), by omega⟩
theorem t_joined (h : Cl m1 v) (hv : Vd v) {a b : Nat} (ha : a < 8) (hb : b < 8) : f_X3_areJoined m1 (n32 a) (n32 b) = some (n32 (if v (8 + 8 * a + b) < 10000 then 1 else 0)) := by
  unfold f_X3_areJoined
  have hf := hv.2.1 a b ha hb
  obtain ⟨h1, h2⟩ := farC_lt hf
  rw [t_between h ha hb]
  simp (disch := omega) only [n32_lit, n32_add, n32_mul, n32_lt, n32_le, n32_eq, n32_nat, n32_inb, gd_dec, gd_one, nm_eq, jn_eq, Option.bind_some, Nat.reduceAdd, Nat.reduceMul, Nat.reduceSub, Nat.reduceLT, Nat.reduceLeDiff, Nat.reduceEqDiff, ↓reduceIte, decide_true, decide_false, and_true, true_and, and_false, false_and, or_false, false_or, or_true, true_or, not_true_eq_false, not_false_eq_true, eq_self, Nat.zero_add, Nat.add_zero, Nat.mul_zero, Nat.mul_one, Nat.zero_le, Nat.not_lt_zero, bind_sm, bind_sm2, h1]
  by_cases q : v (8 + 8 * a + b) < 10000
  · rw [if_neg (by omega), if_pos q]
  · rw [if_pos (by omega), if_neg q]
theorem s_far (hE : REv ((up m0 0 0 0) 6) ((up m0 0 0 0) 0 7) m1 v) (x y : Int32) : Same (f_X7_far m1 x y) (f_X8_far m0 x y) m0 := by
  unfold f_X7_far f_X8_far Same
  rw [nm_eq]
  generalize hw : up m0 0 0 0 = w at hE ⊢
  obtain ⟨h1, hv, hc, ht, ht2⟩ := hE
  rw [ht]
  rcases ht2 with t0 | t0
  · simp (disch := omega) only [n32_lit, n32_add, n32_mul, n32_lt, n32_le, n32_eq, n32_nat, n32_inb, gd_dec, gd_one, nm_eq, jn_eq, Option.bind_some, Nat.reduceAdd, Nat.reduceMul, Nat.reduceSub, Nat.reduceLT, Nat.reduceLeDiff, Nat.reduceEqDiff, ↓reduceIte, decide_true, decide_false, and_true, true_and, and_false, false_and, or_false, false_or, or_true, true_or, not_true_eq_false, not_false_eq_true, eq_self, Nat.zero_add, Nat.add_zero, Nat.mul_zero, Nat.mul_one, Nat.zero_le, Nat.not_lt_zero, bind_sm, bind_sm2, t0]
    exact ⟨_, rfl, rfl⟩
  · simp (disch := omega) only [n32_lit, n32_add, n32_mul, n32_lt, n32_le, n32_eq, n32_nat, n32_inb, gd_dec, gd_one, nm_eq, jn_eq, Option.bind_some, Nat.reduceAdd, Nat.reduceMul, Nat.reduceSub, Nat.reduceLT, Nat.reduceLeDiff, Nat.reduceEqDiff, ↓reduceIte, decide_true, decide_false, and_true, true_and, and_false, false_and, or_false, false_or, or_true, true_or, not_true_eq_false, not_false_eq_true, eq_self, Nat.zero_add, Nat.add_zero, Nat.mul_zero, Nat.mul_one, Nat.zero_le, Nat.not_lt_zero, bind_sm, bind_sm2, t0]
    rcases tri x (k := 7) (by decide) with ⟨a, ha, rfl⟩ | q
    · have a8 : ¬ 8 ≤ a := by omega
      rw [in_yes (b := 7) (k := 7) rfl ha (by decide)]
      rcases tri y (k := 7) (by decide) with ⟨b, hb, rfl⟩ | q
      · have b8 : b < 8 := by omega
        rw [in_yes (b := 7) (k := 7) rfl hb (by decide)]
        have e4 := t_farOf h1 (a := a) (b := b) (by omega) (by omega)
        have e5 := t_joined hc hv (a := a) (b := b) (by omega) (by omega)
        have e6 := t_between hc (a := a) (b := b) (by omega) (by omega)
        have hf := hv.2.1 a b (by omega) (by omega)
        simp (disch := omega) only [n32_lit, n32_add, n32_mul, n32_lt, n32_le, n32_eq, n32_nat, n32_inb, gd_dec, gd_one, nm_eq, jn_eq, Option.bind_some, Nat.reduceAdd, Nat.reduceMul, Nat.reduceSub, Nat.reduceLT, Nat.reduceLeDiff, Nat.reduceEqDiff, ↓reduceIte, decide_true, decide_false, and_true, true_and, and_false, false_and, or_false, false_or, or_true, true_or, not_true_eq_false, not_false_eq_true, eq_self, Nat.zero_add, Nat.add_zero, Nat.mul_zero, Nat.mul_one, Nat.zero_le, Nat.not_lt_zero, bind_sm, bind_sm2, a8, b8, e4, e5, e6]
        by_cases q : v (8 + 8 * a + b) < 10000
        · have q2 : ¬ 10000 ≤ v (8 + 8 * a + b) := by omega
          have q3 : farC (v (8 + 8 * a + b)) = v (8 + 8 * a + b) := by unfold farC; rw [if_pos q]
          simp (disch := omega) only [n32_lit, n32_add, n32_mul, n32_lt, n32_le, n32_eq, n32_nat, n32_inb, gd_dec, gd_one, nm_eq, jn_eq, Option.bind_some, Nat.reduceAdd, Nat.reduceMul, Nat.reduceSub, Nat.reduceLT, Nat.reduceLeDiff, Nat.reduceEqDiff, ↓reduceIte, decide_true, decide_false, and_true, true_and, and_false, false_and, or_false, false_or, or_true, true_or, not_true_eq_false, not_false_eq_true, eq_self, Nat.zero_add, Nat.add_zero, Nat.mul_zero, Nat.mul_one, Nat.zero_le, Nat.not_lt_zero, bind_sm, bind_sm2, q, q2, q3]
          exact ⟨_, rfl, rfl⟩
        · have q2 : 10000 ≤ v (8 + 8 * a + b) := by omega
          simp (disch := omega) only [n32_lit, n32_add, n32_mul, n32_lt, n32_le, n32_eq, n32_nat, n32_inb, gd_dec, gd_one, nm_eq, jn_eq, Option.bind_some, Nat.reduceAdd, Nat.reduceMul, Nat.reduceSub, Nat.reduceLT, Nat.reduceLeDiff, Nat.reduceEqDiff, ↓reduceIte, decide_true, decide_false, and_true, true_and, and_false, false_and, or_false, false_or, or_true, true_or, not_true_eq_false, not_false_eq_true, eq_self, Nat.zero_add, Nat.add_zero, Nat.mul_zero, Nat.mul_one, Nat.zero_le, Nat.not_lt_zero, bind_sm, bind_sm2, q, q2]
          exact ⟨_, rfl, rfl⟩
      · rw [in_no (b := 7) (k := 7) rfl (by decide) q]
        by_cases z0 : y < n32 0
        · simp (disch := omega) only [n32_lit, n32_add, n32_mul, n32_lt, n32_le, n32_eq, n32_nat, n32_inb, gd_dec, gd_one, nm_eq, jn_eq, Option.bind_some, Nat.reduceAdd, Nat.reduceMul, Nat.reduceSub, Nat.reduceLT, Nat.reduceLeDiff, Nat.reduceEqDiff, ↓reduceIte, decide_true, decide_false, and_true, true_and, and_false, false_and, or_false, false_or, or_true, true_or, not_true_eq_false, not_false_eq_true, eq_self, Nat.zero_add, Nat.add_zero, Nat.mul_zero, Nat.mul_one, Nat.zero_le, Nat.not_lt_zero, bind_sm, bind_sm2, a8, z0]
          exact ⟨_, rfl, rfl⟩
        · have z1 : n32 7 < y := q.resolve_left z0
          have z2 : (y < n32 8) = False := eq_false (by rw [i32_nlt, n32_lesucc (by decide)]; exact z1)
          simp (disch := omega) only [n32_lit, n32_add, n32_mul, n32_lt, n32_le, n32_eq, n32_nat, n32_inb, gd_dec, gd_one, nm_eq, jn_eq, Option.bind_some, Nat.reduceAdd, Nat.reduceMul, Nat.reduceSub, Nat.reduceLT, Nat.reduceLeDiff, Nat.reduceEqDiff, ↓reduceIte, decide_true, decide_false, and_true, true_and, and_false, false_and, or_false, false_or, or_true, true_or, not_true_eq_false, not_false_eq_true, eq_self, Nat.zero_add, Nat.add_zero, Nat.mul_zero, Nat.mul_one, Nat.zero_le, Nat.not_lt_zero, bind_sm, bind_sm2, a8, z0, z2]
          exact ⟨_, rfl, rfl⟩
    · rw [in_no (b := 7) (k := 7) rfl (by decide) q]
      by_cases z0 : x < n32 0
      · simp (disch := omega) only [n32_lit, n32_add, n32_mul, n32_lt, n32_le, n32_eq, n32_nat, n32_inb, gd_dec, gd_one, nm_eq, jn_eq, Option.bind_some, Nat.reduceAdd, Nat.reduceMul, Nat.reduceSub, Nat.reduceLT, Nat.reduceLeDiff, Nat.reduceEqDiff, ↓reduceIte, decide_true, decide_false, and_true, true_and, and_false, false_and, or_false, false_or, or_true, true_or, not_true_eq_false, not_false_eq_true, eq_self, Nat.zero_add, Nat.add_zero, Nat.mul_zero, Nat.mul_one, Nat.zero_le, Nat.not_lt_zero, bind_sm, bind_sm2, z0]
        exact ⟨_, rfl, rfl⟩
      · have z1 : n32 8 ≤ x := by rw [n32_lesucc (by decide)]; exact q.resolve_left z0
        simp (disch := omega) only [n32_lit, n32_add, n32_mul, n32_lt, n32_le, n32_eq, n32_nat, n32_inb, gd_dec, gd_one, nm_eq, jn_eq, Option.bind_some, Nat.reduceAdd, Nat.reduceMul, Nat.reduceSub, Nat.reduceLT, Nat.reduceLeDiff, Nat.reduceEqDiff, ↓reduceIte, decide_true, decide_false, and_true, true_and, and_false, false_and, or_false, false_or, or_true, true_or, not_true_eq_false, not_false_eq_true, eq_self, Nat.zero_add, Nat.add_zero, Nat.mul_zero, Nat.mul_one, Nat.zero_le, Nat.not_lt_zero, bind_sm, bind_sm2, z0, z1]
        exact ⟨_, rfl, rfl⟩
end EV
theorem s_fault {m0 m4 : Mem} (h : m4 0 2 = (up m0 0 0 0) 0 13) : Same (f_X7_fault m4) (f_X8_fault m0) m0 := ⟨_, rfl, by unfold f_X8_fault; rw [nm_eq, h]⟩
theorem s_status {m0 m11 : Mem} (h : m11 0 9 = (up m0 0 0 0) 0 1) : Same (f_X7_status m11) (f_X8_status m0) m0 := ⟨_, rfl, by unfold f_X8_status; rw [nm_eq, h]⟩
theorem s_trace {m0 m8 : Mem} (h : RTr ((up m0 0 0 0) 0 36) ((up m0 0 0 0) 36) m8) (x : Int32) : Same (f_X7_trace m8 x) (f_X8_trace m0 x) m0 := by
  unfold f_X7_trace f_X8_trace Same
  rw [nm_eq]
  generalize hw : up m0 0 0 0 = w at h ⊢
  obtain ⟨n, hn, e1, e2, e3⟩ := h
  rw [e1, e2]
  rcases b_in x (k := n) (by omega) with ⟨p, a, b, c, d, e⟩ | ⟨c, d⟩
  · subst b
    rw [c]
    have := e3 p a
    simp (disch := omega) only [n32_lit, n32_add, n32_mul, n32_lt, n32_le, n32_eq, n32_nat, n32_inb, gd_dec, gd_one, nm_eq, jn_eq, Option.bind_some, Nat.reduceAdd, Nat.reduceMul, Nat.reduceSub, Nat.reduceLT, Nat.reduceLeDiff, Nat.reduceEqDiff, ↓reduceIte, decide_true, decide_false, and_true, true_and, and_false, false_and, or_false, false_or, or_true, true_or, not_true_eq_false, not_false_eq_true, eq_self, Nat.zero_add, Nat.add_zero, Nat.mul_zero, Nat.mul_one, Nat.zero_le, Nat.not_lt_zero, bind_sm, bind_sm2, d, e, this]
    exact ⟨_, rfl, rfl⟩
  · rw [c]
    rcases d with d | ⟨d, e⟩
    · simp (disch := omega) only [n32_lit, n32_add, n32_mul, n32_lt, n32_le, n32_eq, n32_nat, n32_inb, gd_dec, gd_one, nm_eq, jn_eq, Option.bind_some, Nat.reduceAdd, Nat.reduceMul, Nat.reduceSub, Nat.reduceLT, Nat.reduceLeDiff, Nat.reduceEqDiff, ↓reduceIte, decide_true, decide_false, and_true, true_and, and_false, false_and, or_false, false_or, or_true, true_or, not_true_eq_false, not_false_eq_true, eq_self, Nat.zero_add, Nat.add_zero, Nat.mul_zero, Nat.mul_one, Nat.zero_le, Nat.not_lt_zero, bind_sm, bind_sm2, d]
      exact ⟨_, rfl, rfl⟩
    · simp (disch := omega) only [n32_lit, n32_add, n32_mul, n32_lt, n32_le, n32_eq, n32_nat, n32_inb, gd_dec, gd_one, nm_eq, jn_eq, Option.bind_some, Nat.reduceAdd, Nat.reduceMul, Nat.reduceSub, Nat.reduceLT, Nat.reduceLeDiff, Nat.reduceEqDiff, ↓reduceIte, decide_true, decide_false, and_true, true_and, and_false, false_and, or_false, false_or, or_true, true_or, not_true_eq_false, not_false_eq_true, eq_self, Nat.zero_add, Nat.add_zero, Nat.mul_zero, Nat.mul_one, Nat.zero_le, Nat.not_lt_zero, bind_sm, bind_sm2, d, e]
      exact ⟨_, rfl, rfl⟩
