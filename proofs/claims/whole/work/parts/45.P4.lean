/-! small questions of both sides -/
section EV
variable {m0 m1 : Mem} {told : Int32} {v : Nat → Nat}
/-- the car of somebody, as an answer -/
def IsCarOf (v : Nat → Nat) (p : Nat) (r : Int32) : Prop := (∃ c, c < v 5 ∧ v (100 + 3 * c) = p ∧ r = n32 c) ∨ ((∀ c, c < v 5 → v (100 + 3 * c) ≠ p) ∧ r = -1000000)
theorem IsCarOf.eq {p : Nat} {r r' : Int32} (hv : Vd v) (h : IsCarOf v p r) (h' : IsCarOf v p r') : r = r' := by
  rcases h with ⟨c, a, b, d⟩ | ⟨a, d⟩
  · rcases h' with ⟨c', a', b', d'⟩ | ⟨a', d'⟩
    · rw [d, d', (hv.1.2.2.2.2.2.2.2 c a).2.2.2.2 c' a' (b'.trans b.symm)]
    · exact absurd b (a' c a)
  · rcases h' with ⟨c', a', b', d'⟩ | ⟨a', d'⟩
    · exact absurd b' (a c' a')
    · rw [d, d']
theorem t_carOf (h : Sh (m0 6) v) (hv : Vd v) {p : Nat} (hp : p < 7) : ok (IsCarOf v p) (f_X8_carOf m0 (n32 p)) := by
  obtain ⟨⟨h4, h5, h0, h1, h6, h7, hP, hC⟩, hF⟩ := hv
  unfold f_X8_carOf
  refine loop_up (S := Unit) (fun t u _ => f_X8_carOf_L2 (fun (u13 : Int32) => (some (-1000000))) (n32 p) m0 t u) (v 5) (fun i _ => ∀ c, c < i → v (100 + 3 * c) ≠ p) _ ?_ ?_ (v 5) 0 () 100000 (by omega) (by omega) (fun c h => by omega)
  · intro t s hi
    refine ok_eq (f_X8_carOf_L2.eq_2 _ _ _ _ _) ?_
    simp (disch := omega) only [n32_lit, n32_add, n32_mul, n32_lt, n32_le, n32_eq, n32_nat, n32_inb, gd_dec, gd_one, nm_eq, jn_eq, Option.bind_some, Nat.reduceAdd, Nat.reduceMul, Nat.reduceSub, Nat.reduceLT, Nat.reduceLeDiff, Nat.reduceEqDiff, ↓reduceIte, decide_true, decide_false, and_true, true_and, and_false, false_and, or_false, false_or, or_true, true_or, not_true_eq_false, not_false_eq_true, eq_self, Nat.zero_add, Nat.add_zero, Nat.mul_zero, Nat.mul_one, Nat.zero_le, Nat.not_lt_zero, bind_sm, bind_sm2, h 5 (by decide), Nat.le_refl]
    exact ok_some (Or.inr ⟨hi, rfl⟩)
  · intro i t s hi hI
    have hc := hC i hi
    have hc1 := hc.1
    have e := t_car0 (k := 0) h (c := i) (by omega) (by omega)
    have hn : ¬ v 5 ≤ i := by omega
    by_cases q : v (100 + 3 * i) = p
    · right
      refine ok_eq (f_X8_carOf_L2.eq_2 _ _ _ _ _) ?_
      simp (disch := omega) only [n32_lit, n32_add, n32_mul, n32_lt, n32_le, n32_eq, n32_nat, n32_inb, gd_dec, gd_one, nm_eq, jn_eq, Option.bind_some, Nat.reduceAdd, Nat.reduceMul, Nat.reduceSub, Nat.reduceLT, Nat.reduceLeDiff, Nat.reduceEqDiff, ↓reduceIte, decide_true, decide_false, and_true, true_and, and_false, false_and, or_false, false_or, or_true, true_or, not_true_eq_false, not_false_eq_true, eq_self, Nat.zero_add, Nat.add_zero, Nat.mul_zero, Nat.mul_one, Nat.zero_le, Nat.not_lt_zero, bind_sm, bind_sm2, h 5 (by decide), hn, e, q]
      exact ok_some (Or.inl ⟨i, hi, q, rfl⟩)
    · left
      refine ⟨(), fun c hc => ?_, ?_⟩
      · by_cases z : c = i
        · rw [z]; exact q
        · exact hI c (by omega)
      · refine Eq.trans (f_X8_carOf_L2.eq_2 _ _ _ _ _) ?_
        simp (disch := omega) only [n32_lit, n32_add, n32_mul, n32_lt, n32_le, n32_eq, n32_nat, n32_inb, gd_dec, gd_one, nm_eq, jn_eq, Option.bind_some, Nat.reduceAdd, Nat.reduceMul, Nat.reduceSub, Nat.reduceLT, Nat.reduceLeDiff, Nat.reduceEqDiff, ↓reduceIte, decide_true, decide_false, and_true, true_and, and_false, false_and, or_false, false_or, or_true, true_or, not_true_eq_false, not_false_eq_true, eq_self, Nat.zero_add, Nat.add_zero, Nat.mul_zero, Nat.mul_one, Nat.zero_le, Nat.not_lt_zero, bind_sm, bind_sm2, h 5 (by decide), hn, e, q]
theorem t_carOfC (h : Cl0 m1 v) (hv : Vd0 v) {p : Nat} (hp : p < 2147483648) : ok (IsCarOf v p) (f_X3_carOf m1 (n32 p)) := by
  obtain ⟨h4, h5, h0, h1, h6, h7, hP, hC⟩ := hv
  have e5 := h.2.2.2.2.1
  unfold f_X3_carOf
  refine loop_up (S := Unit) (fun t u _ => f_X3_carOf_L2 (fun (u13 : Int32) => (some (-1000000))) (n32 p) m1 t u) (v 5) (fun i _ => ∀ c, c < i → v (100 + 3 * c) ≠ p) _ ?_ ?_ (v 5) 0 () 100000 (by omega) (by omega) (fun c h => by omega)
  · intro t s hi
    refine ok_eq (f_X3_carOf_L2.eq_2 _ _ _ _ _) ?_
    simp (disch := omega) only [n32_lit, n32_add, n32_mul, n32_lt, n32_le, n32_eq, n32_nat, n32_inb, gd_dec, gd_one, nm_eq, jn_eq, Option.bind_some, Nat.reduceAdd, Nat.reduceMul, Nat.reduceSub, Nat.reduceLT, Nat.reduceLeDiff, Nat.reduceEqDiff, ↓reduceIte, decide_true, decide_false, and_true, true_and, and_false, false_and, or_false, false_or, or_true, true_or, not_true_eq_false, not_false_eq_true, eq_self, Nat.zero_add, Nat.add_zero, Nat.mul_zero, Nat.mul_one, Nat.zero_le, Nat.not_lt_zero, bind_sm, bind_sm2, e5, Nat.le_refl]
    exact ok_some (Or.inr ⟨hi, rfl⟩)
  · intro i t s hi hI
    have hc := hC i hi
    have hc1 := hc.1
    have e := (h.2.2.2.2.2.2.2.2 i hi).1
    have hn : ¬ v 5 ≤ i := by omega
    by_cases q : v (100 + 3 * i) = p
    · right
      refine ok_eq (f_X3_carOf_L2.eq_2 _ _ _ _ _) ?_
      simp (disch := omega) only [n32_lit, n32_add, n32_mul, n32_lt, n32_le, n32_eq, n32_nat, n32_inb, gd_dec, gd_one, nm_eq, jn_eq, Option.bind_some, Nat.reduceAdd, Nat.reduceMul, Nat.reduceSub, Nat.reduceLT, Nat.reduceLeDiff, Nat.reduceEqDiff, ↓reduceIte, decide_true, decide_false, and_true, true_and, and_false, false_and, or_false, false_or, or_true, true_or, not_true_eq_false, not_false_eq_true, eq_self, Nat.zero_add, Nat.add_zero, Nat.mul_zero, Nat.mul_one, Nat.zero_le, Nat.not_lt_zero, bind_sm, bind_sm2, e5, hn, e, q]
      exact ok_some (Or.inl ⟨i, hi, q, rfl⟩)
    · left
      refine ⟨(), fun c hc => ?_, ?_⟩
      · by_cases z : c = i
        · rw [z]; exact q
        · exact hI c (by omega)
      · refine Eq.trans (f_X3_carOf_L2.eq_2 _ _ _ _ _) ?_
        simp (disch := omega) only [n32_lit, n32_add, n32_mul, n32_lt, n32_le, n32_eq, n32_nat, n32_inb, gd_dec, gd_one, nm_eq, jn_eq, Option.bind_some, Nat.reduceAdd, Nat.reduceMul, Nat.reduceSub, Nat.reduceLT, Nat.reduceLeDiff, Nat.reduceEqDiff, ↓reduceIte, decide_true, decide_false, and_true, true_and, and_false, false_and, or_false, false_or, or_true, true_or, not_true_eq_false, not_false_eq_true, eq_self, Nat.zero_add, Nat.add_zero, Nat.mul_zero, Nat.mul_one, Nat.zero_le, Nat.not_lt_zero, bind_sm, bind_sm2, e5, hn, e, q]
/-- a call that only looks -/
def Same (f7 : Option Int32) (f8 : Option (Int32 × Mem)) (m0 : Mem) : Prop := ∃ a, f7 = some a ∧ f8 = some (a, up m0 0 0 0)
theorem s_person (hE : REv ((up m0 0 0 0) 6) told m1 v) (x y : Int32) : Same (f_X7_person m1 x y) (f_X8_person m0 x y) m0 := by
  unfold f_X7_person f_X8_person Same
  rw [nm_eq]
  generalize hw : up m0 0 0 0 = w at hE ⊢
  have hE' := hE
  obtain ⟨h1, hv, hc, -, -⟩ := hE'
  rcases b_person hE x with ⟨p, hp, rfl, e1, e2⟩ | ⟨e1, e2⟩
  · have h7 : v 4 ≤ 7 := hv.1.1
    obtain ⟨a1, a2, a3, a4⟩ := hc.1.2.2.2.2.2.2.2.1 p hp
    rw [e1, e2]
    rcases rng y (k := 3) (by decide) with ⟨n, hn, rfl, q⟩ | ⟨q, q'⟩
    · have e3 : f_X8_in (n32 n).toInt64 0 3 = some (n32 1) := (t_in0 (k := 3) rfl (by decide)).trans (by rw [if_pos (by rw [q]; trivial)])
      rw [e3]
      rcases (show n = 0 ∨ n = 1 ∨ n = 2 ∨ n = 3 by omega) with rfl | rfl | rfl | rfl
      · have e4 := t_of (k := 1) h1 (p := p) (by omega) (by omega)
        simp (disch := omega) only [n32_lit, n32_add, n32_mul, n32_lt, n32_le, n32_eq, n32_nat, n32_inb, gd_dec, gd_one, nm_eq, jn_eq, Option.bind_some, Nat.reduceAdd, Nat.reduceMul, Nat.reduceSub, Nat.reduceLT, Nat.reduceLeDiff, Nat.reduceEqDiff, ↓reduceIte, decide_true, decide_false, and_true, true_and, and_false, false_and, or_false, false_or, or_true, true_or, not_true_eq_false, not_false_eq_true, eq_self, Nat.zero_add, Nat.add_zero, Nat.mul_zero, Nat.mul_one, Nat.zero_le, Nat.not_lt_zero, bind_sm, bind_sm2, e4, a2]
        exact ⟨_, rfl, rfl⟩
      · have e4 := t_of (k := 2) h1 (p := p) (by omega) (by omega)
        simp (disch := omega) only [n32_lit, n32_add, n32_mul, n32_lt, n32_le, n32_eq, n32_nat, n32_inb, gd_dec, gd_one, nm_eq, jn_eq, Option.bind_some, Nat.reduceAdd, Nat.reduceMul, Nat.reduceSub, Nat.reduceLT, Nat.reduceLeDiff, Nat.reduceEqDiff, ↓reduceIte, decide_true, decide_false, and_true, true_and, and_false, false_and, or_false, false_or, or_true, true_or, not_true_eq_false, not_false_eq_true, eq_self, Nat.zero_add, Nat.add_zero, Nat.mul_zero, Nat.mul_one, Nat.zero_le, Nat.not_lt_zero, bind_sm, bind_sm2, e4, a3]
        exact ⟨_, rfl, rfl⟩
      · obtain ⟨r, f1, g1⟩ := t_carOf h1 hv (p := p) (by omega)
        obtain ⟨r', f2, g2⟩ := t_carOfC hc.1 hv.1 (p := p) (by omega)
        have := IsCarOf.eq hv g1 g2
        subst this
        simp (disch := omega) only [n32_lit, n32_add, n32_mul, n32_lt, n32_le, n32_eq, n32_nat, n32_inb, gd_dec, gd_one, nm_eq, jn_eq, Option.bind_some, Nat.reduceAdd, Nat.reduceMul, Nat.reduceSub, Nat.reduceLT, Nat.reduceLeDiff, Nat.reduceEqDiff, ↓reduceIte, decide_true, decide_false, and_true, true_and, and_false, false_and, or_false, false_or, or_true, true_or, not_true_eq_false, not_false_eq_true, eq_self, Nat.zero_add, Nat.add_zero, Nat.mul_zero, Nat.mul_one, Nat.zero_le, Nat.not_lt_zero, bind_sm, bind_sm2, f1, f2]
        exact ⟨_, rfl, rfl⟩
      · have e4 := t_of (k := 3) h1 (p := p) (by omega) (by omega)
        simp (disch := omega) only [n32_lit, n32_add, n32_mul, n32_lt, n32_le, n32_eq, n32_nat, n32_inb, gd_dec, gd_one, nm_eq, jn_eq, Option.bind_some, Nat.reduceAdd, Nat.reduceMul, Nat.reduceSub, Nat.reduceLT, Nat.reduceLeDiff, Nat.reduceEqDiff, ↓reduceIte, decide_true, decide_false, and_true, true_and, and_false, false_and, or_false, false_or, or_true, true_or, not_true_eq_false, not_false_eq_true, eq_self, Nat.zero_add, Nat.add_zero, Nat.mul_zero, Nat.mul_one, Nat.zero_le, Nat.not_lt_zero, bind_sm, bind_sm2, e4, a4]
        exact ⟨_, rfl, rfl⟩
    · have e3 : f_X8_in y.toInt64 0 3 = some (n32 0) := (t_in0 (k := 3) rfl (by decide)).trans (by rw [if_neg (by rw [q]; exact id)])
      rw [e3]
      have hne : ∀ k, k ≤ 3 → y ≠ n32 k := by
        intro k hk z
        rw [z, n32_lt (by omega) (by decide), n32_lt (by decide) (by omega)] at q'
        omega
      simp (disch := omega) only [n32_lit, n32_add, n32_mul, n32_lt, n32_le, n32_eq, n32_nat, n32_inb, gd_dec, gd_one, nm_eq, jn_eq, Option.bind_some, Nat.reduceAdd, Nat.reduceMul, Nat.reduceSub, Nat.reduceLT, Nat.reduceLeDiff, Nat.reduceEqDiff, ↓reduceIte, decide_true, decide_false, and_true, true_and, and_false, false_and, or_false, false_or, or_true, true_or, not_true_eq_false, not_false_eq_true, eq_self, Nat.zero_add, Nat.add_zero, Nat.mul_zero, Nat.mul_one, Nat.zero_le, Nat.not_lt_zero, bind_sm, bind_sm2, hne 0 (by decide), hne 1 (by decide), hne 2 (by decide), hne 3 (by decide)]
      exact ⟨_, rfl, rfl⟩
  · rw [e1, e2]
    simp (disch := omega) only [n32_lit, n32_add, n32_mul, n32_lt, n32_le, n32_eq, n32_nat, n32_inb, gd_dec, gd_one, nm_eq, jn_eq, Option.bind_some, Nat.reduceAdd, Nat.reduceMul, Nat.reduceSub, Nat.reduceLT, Nat.reduceLeDiff, Nat.reduceEqDiff, ↓reduceIte, decide_true, decide_false, and_true, true_and, and_false, false_and, or_false, false_or, or_true, true_or, not_true_eq_false, not_false_eq_true, eq_self, Nat.zero_add, Nat.add_zero, Nat.mul_zero, Nat.mul_one, Nat.zero_le, Nat.not_lt_zero, bind_sm, bind_sm2]
    exact ⟨_, rfl, rfl⟩
end EV
