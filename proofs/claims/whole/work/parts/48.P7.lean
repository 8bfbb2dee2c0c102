/-! goes, soon, odds, count -/
theorem same_of_ok2 {x : Option Int32} {y : Option (Int32 × Mem)} {w : Mem} (h : ok2 (fun r s => s = (r, w)) x y) : ∃ a, x = some a ∧ y = some (a, w) := by
  obtain ⟨r, s, k1, k2, k3⟩ := h
  exact ⟨r, k1, by rw [k2, k3]⟩
section EV
variable {m0 m1 : Mem} {told : Int32} {v : Nat → Nat}
theorem s_goes (hE : REv ((up m0 0 0 0) 6) ((up m0 0 0 0) 0 7) m1 v) (x : Int32) : Same (f_X7_goes m1 x) (f_X8_goes m0 x) m0 := by
  unfold f_X7_goes f_X8_goes Same
  rw [nm_eq]
  generalize hw : up m0 0 0 0 = w at hE ⊢
  obtain ⟨h1, hv, hc, ht, ht2⟩ := hE
  rw [ht]
  rcases ht2 with t0 | t0
  · simp (disch := omega) only [n32_lit, n32_add, n32_mul, n32_lt, n32_le, n32_eq, n32_nat, n32_inb, gd_dec, gd_one, nm_eq, jn_eq, Option.bind_some, Nat.reduceAdd, Nat.reduceMul, Nat.reduceSub, Nat.reduceLT, Nat.reduceLeDiff, Nat.reduceEqDiff, ↓reduceIte, decide_true, decide_false, and_true, true_and, and_false, false_and, or_false, false_or, or_true, true_or, not_true_eq_false, not_false_eq_true, eq_self, Nat.zero_add, Nat.add_zero, Nat.mul_zero, Nat.mul_one, Nat.zero_le, Nat.not_lt_zero, bind_sm, bind_sm2, t0]
    exact ⟨_, rfl, rfl⟩
  · simp (disch := omega) only [n32_lit, n32_add, n32_mul, n32_lt, n32_le, n32_eq, n32_nat, n32_inb, gd_dec, gd_one, nm_eq, jn_eq, Option.bind_some, Nat.reduceAdd, Nat.reduceMul, Nat.reduceSub, Nat.reduceLT, Nat.reduceLeDiff, Nat.reduceEqDiff, ↓reduceIte, decide_true, decide_false, and_true, true_and, and_false, false_and, or_false, false_or, or_true, true_or, not_true_eq_false, not_false_eq_true, eq_self, Nat.zero_add, Nat.add_zero, Nat.mul_zero, Nat.mul_one, Nat.zero_le, Nat.not_lt_zero, bind_sm, bind_sm2, t0]
    rcases b_min x with ⟨n, hn, rfl, e5, e6⟩ | ⟨e5, e6⟩
    · have e1 := t_goingAt h1 hv hn
      have e2 := t_carsThatGo hc hv hn
      rw [e5, e6]
      simp (disch := omega) only [n32_lit, n32_add, n32_mul, n32_lt, n32_le, n32_eq, n32_nat, n32_inb, gd_dec, gd_one, nm_eq, jn_eq, Option.bind_some, Nat.reduceAdd, Nat.reduceMul, Nat.reduceSub, Nat.reduceLT, Nat.reduceLeDiff, Nat.reduceEqDiff, ↓reduceIte, decide_true, decide_false, and_true, true_and, and_false, false_and, or_false, false_or, or_true, true_or, not_true_eq_false, not_false_eq_true, eq_self, Nat.zero_add, Nat.add_zero, Nat.mul_zero, Nat.mul_one, Nat.zero_le, Nat.not_lt_zero, bind_sm, bind_sm2, e1, e2]
      exact ⟨_, rfl, rfl⟩
    · rw [e5, e6]
      simp (disch := omega) only [n32_lit, n32_add, n32_mul, n32_lt, n32_le, n32_eq, n32_nat, n32_inb, gd_dec, gd_one, nm_eq, jn_eq, Option.bind_some, Nat.reduceAdd, Nat.reduceMul, Nat.reduceSub, Nat.reduceLT, Nat.reduceLeDiff, Nat.reduceEqDiff, ↓reduceIte, decide_true, decide_false, and_true, true_and, and_false, false_and, or_false, false_or, or_true, true_or, not_true_eq_false, not_false_eq_true, eq_self, Nat.zero_add, Nat.add_zero, Nat.mul_zero, Nat.mul_one, Nat.zero_le, Nat.not_lt_zero, bind_sm, bind_sm2]
      exact ⟨_, rfl, rfl⟩
theorem md_hour (v : Nat → Nat) (p g mn : Nat) : md v p g mn = md v p g (60 * (mn / 60)) := by
  unfold md drk
  rw [Nat.mul_div_cancel_left _ (show 0 < 60 by omega)]
theorem s_soon (hE : REv ((up m0 0 0 0) 6) told m1 v) (x : Int32) : Same (f_X7_soon m1 x) (f_X8_soon m0 x) m0 := by
  unfold f_X7_soon f_X8_soon Same
  rw [nm_eq]
  generalize hw : up m0 0 0 0 = w at hE ⊢
  have hE' := hE
  obtain ⟨h1, hv, hc, ht, ht2⟩ := hE'
  rcases b_person hE x with ⟨p, hp, rfl, e1, e2⟩ | ⟨e1, e2⟩
  · have h7 : v 4 ≤ 7 := hv.1.1
    obtain ⟨a1, a2, a3, a4⟩ := hc.1.2.2.2.2.2.2.2.1 p hp
    have hg := (hv.1.2.2.2.2.2.2.1 p hp).2.2.2.2.1
    have e4 := t_of (k := 2) h1 (p := p) (by omega) (by omega)
    rw [e1, e2]
    simp (disch := omega) only [n32_lit, n32_add, n32_mul, n32_lt, n32_le, n32_eq, n32_nat, n32_inb, gd_dec, gd_one, nm_eq, jn_eq, Option.bind_some, Nat.reduceAdd, Nat.reduceMul, Nat.reduceSub, Nat.reduceLT, Nat.reduceLeDiff, Nat.reduceEqDiff, ↓reduceIte, decide_true, decide_false, and_true, true_and, and_false, false_and, or_false, false_or, or_true, true_or, not_true_eq_false, not_false_eq_true, eq_self, Nat.zero_add, Nat.add_zero, Nat.mul_zero, Nat.mul_one, Nat.zero_le, Nat.not_lt_zero, bind_sm, bind_sm2]
    generalize hgg : v (72 + 4 * p + 2) = g at *
    have k8 : ok (fun r => r.2 = w ∧ ((∃ m, m ≤ 600 ∧ md v p g m = 1 ∧ (∀ j, j < m → md v p g j = 0) ∧ r.1 = n32 m) ∨ ((∀ j, j ≤ 600 → md v p g j = 0) ∧ r.1 = -1000000))) (f_X8_soon_L18 (fun (u16 : Int32) => (some ((-1000000), w))) (n32 p) w 100000 (n32 0)) := by
      refine loop_up (S := Unit) (fun t u _ => f_X8_soon_L18 (fun (u16 : Int32) => (some ((-1000000), w))) (n32 p) w t u) 601 (fun i _ => ∀ j, j < i → md v p g j = 0) _ ?_ ?_ 601 0 () 100000 (by omega) (by omega) (fun j h => by omega)
      · intro t s hi
        refine ok_eq (f_X8_soon_L18.eq_2 _ _ _ _ _) ?_
        simp (disch := omega) only [n32_lit, n32_add, n32_mul, n32_lt, n32_le, n32_eq, n32_nat, n32_inb, gd_dec, gd_one, nm_eq, jn_eq, Option.bind_some, Nat.reduceAdd, Nat.reduceMul, Nat.reduceSub, Nat.reduceLT, Nat.reduceLeDiff, Nat.reduceEqDiff, ↓reduceIte, decide_true, decide_false, and_true, true_and, and_false, false_and, or_false, false_or, or_true, true_or, not_true_eq_false, not_false_eq_true, eq_self, Nat.zero_add, Nat.add_zero, Nat.mul_zero, Nat.mul_one, Nat.zero_le, Nat.not_lt_zero, bind_sm, bind_sm2]
        exact ok_some ⟨rfl, Or.inr ⟨fun j hj => hi j (by omega), rfl⟩⟩
      · intro i t s hi hI
        have hn : ¬ 600 < i := by omega
        have e5 := t_mayDrive h1 hv hp (g := g) (mn := i) (by omega) (by omega)
        rcases md01 v p g i with z | z
        · left
          refine ⟨(), fun j hj => ?_, ?_⟩
          · by_cases q : j = i
            · rw [q]; exact z
            · exact hI j (by omega)
          · refine Eq.trans (f_X8_soon_L18.eq_2 _ _ _ _ _) ?_
            simp (disch := omega) only [n32_lit, n32_add, n32_mul, n32_lt, n32_le, n32_eq, n32_nat, n32_inb, gd_dec, gd_one, nm_eq, jn_eq, Option.bind_some, Nat.reduceAdd, Nat.reduceMul, Nat.reduceSub, Nat.reduceLT, Nat.reduceLeDiff, Nat.reduceEqDiff, ↓reduceIte, decide_true, decide_false, and_true, true_and, and_false, false_and, or_false, false_or, or_true, true_or, not_true_eq_false, not_false_eq_true, eq_self, Nat.zero_add, Nat.add_zero, Nat.mul_zero, Nat.mul_one, Nat.zero_le, Nat.not_lt_zero, bind_sm, bind_sm2, hn, e4, e5, z]
        · right
          refine ok_eq (f_X8_soon_L18.eq_2 _ _ _ _ _) ?_
          simp (disch := omega) only [n32_lit, n32_add, n32_mul, n32_lt, n32_le, n32_eq, n32_nat, n32_inb, gd_dec, gd_one, nm_eq, jn_eq, Option.bind_some, Nat.reduceAdd, Nat.reduceMul, Nat.reduceSub, Nat.reduceLT, Nat.reduceLeDiff, Nat.reduceEqDiff, ↓reduceIte, decide_true, decide_false, and_true, true_and, and_false, false_and, or_false, false_or, or_true, true_or, not_true_eq_false, not_false_eq_true, eq_self, Nat.zero_add, Nat.add_zero, Nat.mul_zero, Nat.mul_one, Nat.zero_le, Nat.not_lt_zero, bind_sm, bind_sm2, hn, e4, e5, z]
          exact ok_some ⟨rfl, Or.inl ⟨i, by omega, z, hI, rfl⟩⟩
    have k7 : ok (fun r => ((∃ m, m ≤ 10 ∧ md v p g (60 * m) = 1 ∧ (∀ j, j < m → md v p g (60 * j) = 0) ∧ r = n32 (60 * m)) ∨ ((∀ j, j ≤ 10 → md v p g (60 * j) = 0) ∧ r = -1000000))) (f_X7_soon_L16 (fun (u14 : Int32) => (some (-1000000))) (n32 p) m1 100000 (n32 60 * n32 0)) := by
      refine loop_up (S := Unit) (fun t u _ => f_X7_soon_L16 (fun (u14 : Int32) => (some (-1000000))) (n32 p) m1 t (n32 60 * u)) 11 (fun i _ => ∀ j, j < i → md v p g (60 * j) = 0) _ ?_ ?_ 11 0 () 100000 (by omega) (by omega) (fun j h => by omega)
      · intro t s hi
        refine ok_eq (f_X7_soon_L16.eq_2 _ _ _ _ _) ?_
        simp (disch := omega) only [n32_lit, n32_add, n32_mul, n32_lt, n32_le, n32_eq, n32_nat, n32_inb, gd_dec, gd_one, nm_eq, jn_eq, Option.bind_some, Nat.reduceAdd, Nat.reduceMul, Nat.reduceSub, Nat.reduceLT, Nat.reduceLeDiff, Nat.reduceEqDiff, ↓reduceIte, decide_true, decide_false, and_true, true_and, and_false, false_and, or_false, false_or, or_true, true_or, not_true_eq_false, not_false_eq_true, eq_self, Nat.zero_add, Nat.add_zero, Nat.mul_zero, Nat.mul_one, Nat.zero_le, Nat.not_lt_zero, bind_sm, bind_sm2]
        exact ok_some (Or.inr ⟨fun j hj => hi j (by omega), rfl⟩)
      · intro i t s hi hI
        have hn : ¬ 600 < 60 * i := by omega
        have e5 := t_mayDriveC hc hv hp (g := g) (mn := 60 * i) (by omega) (by omega)
        rcases md01 v p g (60 * i) with z | z
        · left
          refine ⟨(), fun j hj => ?_, ?_⟩
          · by_cases q : j = i
            · rw [q]; exact z
            · exact hI j (by omega)
          · refine Eq.trans (f_X7_soon_L16.eq_2 _ _ _ _ _) ?_
            simp (disch := omega) only [n32_lit, n32_add, n32_mul, n32_lt, n32_le, n32_eq, n32_nat, n32_inb, gd_dec, gd_one, nm_eq, jn_eq, Option.bind_some, Nat.reduceAdd, Nat.reduceMul, Nat.reduceSub, Nat.reduceLT, Nat.reduceLeDiff, Nat.reduceEqDiff, ↓reduceIte, decide_true, decide_false, and_true, true_and, and_false, false_and, or_false, false_or, or_true, true_or, not_true_eq_false, not_false_eq_true, eq_self, Nat.zero_add, Nat.add_zero, Nat.mul_zero, Nat.mul_one, Nat.zero_le, Nat.not_lt_zero, bind_sm, bind_sm2, hn, a3, e5, z]
            rw [show 60 * (i + 1) = 60 * i + 60 by omega]
        · right
          refine ok_eq (f_X7_soon_L16.eq_2 _ _ _ _ _) ?_
          simp (disch := omega) only [n32_lit, n32_add, n32_mul, n32_lt, n32_le, n32_eq, n32_nat, n32_inb, gd_dec, gd_one, nm_eq, jn_eq, Option.bind_some, Nat.reduceAdd, Nat.reduceMul, Nat.reduceSub, Nat.reduceLT, Nat.reduceLeDiff, Nat.reduceEqDiff, ↓reduceIte, decide_true, decide_false, and_true, true_and, and_false, false_and, or_false, false_or, or_true, true_or, not_true_eq_false, not_false_eq_true, eq_self, Nat.zero_add, Nat.add_zero, Nat.mul_zero, Nat.mul_one, Nat.zero_le, Nat.not_lt_zero, bind_sm, bind_sm2, hn, a3, e5, z]
          exact ok_some (Or.inl ⟨i, by omega, z, hI, rfl⟩)
    obtain ⟨r8, f8, g8, q8⟩ := k8
    obtain ⟨r7, f7, q7⟩ := k7
    simp (disch := omega) only [n32_lit, n32_add, n32_mul, n32_lt, n32_le, n32_eq, n32_nat, n32_inb, gd_dec, gd_one, nm_eq, jn_eq, Option.bind_some, Nat.reduceAdd, Nat.reduceMul, Nat.reduceSub, Nat.reduceLT, Nat.reduceLeDiff, Nat.reduceEqDiff, ↓reduceIte, decide_true, decide_false, and_true, true_and, and_false, false_and, or_false, false_or, or_true, true_or, not_true_eq_false, not_false_eq_true, eq_self, Nat.zero_add, Nat.add_zero, Nat.mul_zero, Nat.mul_one, Nat.zero_le, Nat.not_lt_zero, bind_sm, bind_sm2] at f7 f8
    rw [f7, f8]
    have : r7 = r8.1 := by
      rcases q8 with ⟨m, l1, l2, l3, l4⟩ | ⟨l1, l2⟩
      · rcases q7 with ⟨h, i1, i2, i3, i4⟩ | ⟨i1, i2⟩
        · have c1 : ¬ 60 * h < m := fun z => by rw [l3 _ z] at i2; omega
          have c2 : ¬ m / 60 < h := fun z => by rw [md_hour, i3 _ z] at l2; omega
          rw [l4, i4, show m = 60 * h by omega]
        · rw [md_hour, i1 _ (by omega)] at l2; omega
      · rcases q7 with ⟨h, i1, i2, i3, i4⟩ | ⟨i1, i2⟩
        · rw [l1 _ (by omega)] at i2; omega
        · rw [l2, i2]
    exact ⟨r7, rfl, by rw [this, ← g8]⟩
  · rw [e1, e2]
    simp (disch := omega) only [n32_lit, n32_add, n32_mul, n32_lt, n32_le, n32_eq, n32_nat, n32_inb, gd_dec, gd_one, nm_eq, jn_eq, Option.bind_some, Nat.reduceAdd, Nat.reduceMul, Nat.reduceSub, Nat.reduceLT, Nat.reduceLeDiff, Nat.reduceEqDiff, ↓reduceIte, decide_true, decide_false, and_true, true_and, and_false, false_and, or_false, false_or, or_true, true_or, not_true_eq_false, not_false_eq_true, eq_self, Nat.zero_add, Nat.add_zero, Nat.mul_zero, Nat.mul_one, Nat.zero_le, Nat.not_lt_zero, bind_sm, bind_sm2]
    exact ⟨_, rfl, rfl⟩
theorem t_gcd {a b : Nat} (ha : a ≤ 10) (hb : b ≤ 10) (hb1 : 1 ≤ b) : ∃ d, 1 ≤ d ∧ d ≤ 10 ∧ f_X8_divisor (n32 a) (n32 b) = some (n32 d) ∧ f_X7_commonDivisor (n32 a) (n32 b) = some (n32 d) := by
  have : ∀ a, a < 11 → ∀ b, b < 11 → 1 ≤ b → f_X8_divisor (n32 a) (n32 b) = some (n32 (Nat.gcd a b)) ∧ f_X7_commonDivisor (n32 a) (n32 b) = some (n32 (Nat.gcd a b)) ∧ 1 ≤ Nat.gcd a b ∧ Nat.gcd a b ≤ 10 := by decide +kernel
  obtain ⟨h1, h2, h3, h4⟩ := this a (by omega) b (by omega) hb1
  exact ⟨_, h3, h4, h1, h2⟩
theorem s_odds (hE : REv ((up m0 0 0 0) 6) told m1 v) (x y z w : Int32) : Same (f_X7_odds m1 x y z w) (f_X8_odds m0 x y z w) m0 := by
  unfold f_X7_odds f_X8_odds Same
  rw [nm_eq]
  generalize hw : up m0 0 0 0 = w0 at hE ⊢
  have hE' := hE
  obtain ⟨h1, hv, hc, ht, ht2⟩ := hE'
  rcases b_person hE x with ⟨p, hp, rfl, e1, e2⟩ | ⟨e1, e2⟩
  · have h7 : v 4 ≤ 7 := hv.1.1
    obtain ⟨a1, a2, a3, a4⟩ := hc.1.2.2.2.2.2.2.2.1 p hp
    have hg := (hv.1.2.2.2.2.2.2.1 p hp).2.2.2.2.1
    have e4 := t_of (k := 2) h1 (p := p) (by omega) (by omega)
    rw [e1, e2]
    rcases b_min y with ⟨n, hn, rfl, e5, e6⟩ | ⟨e5, e6⟩
    · rw [e5, e6]
      rcases tri z (k := 9) (by decide) with ⟨j, hj, rfl⟩ | q
      · rw [in_yes (b := 9) (k := 9) rfl hj (by decide)]
        rcases tri w (k := 1) (by decide) with ⟨wh, hwh, rfl⟩ | q
        · rw [in_yes (b := 1) (k := 1) rfl hwh (by decide)]
          have j9 : ¬ 9 < j := by omega
          simp (disch := omega) only [n32_lit, n32_add, n32_mul, n32_lt, n32_le, n32_eq, n32_nat, n32_inb, gd_dec, gd_one, nm_eq, jn_eq, Option.bind_some, Nat.reduceAdd, Nat.reduceMul, Nat.reduceSub, Nat.reduceLT, Nat.reduceLeDiff, Nat.reduceEqDiff, ↓reduceIte, decide_true, decide_false, and_true, true_and, and_false, false_and, or_false, false_or, or_true, true_or, not_true_eq_false, not_false_eq_true, eq_self, Nat.zero_add, Nat.add_zero, Nat.mul_zero, Nat.mul_one, Nat.zero_le, Nat.not_lt_zero, bind_sm, bind_sm2, j9, hwh]
          refine same_of_ok2 ?_
          refine loop_two (S7 := Int32) (S8 := Int32) (fun t u s => f_X7_odds_L48 _ (n32 p) (n32 n) (n32 j) m1 t s u) (fun t u s => f_X8_odds_L52 _ (n32 p) (n32 n) (n32 j) w0 t s u) (j + 1) (fun i s s' => ∃ a, a ≤ i ∧ s = n32 a ∧ s' = n32 a) _ ?_ ?_ (j + 1) 0 (n32 0) (n32 0) 100000 100000 (by omega) (by omega) (by omega) ⟨0, by omega, rfl, rfl⟩
          · intro t t' s s' ⟨a, ha, es, es'⟩
            refine ok2_eq (f_X7_odds_L48.eq_2 _ _ _ _ _ _ _ _) (f_X8_odds_L52.eq_2 _ _ _ _ _ _ _ _) ?_
            obtain ⟨d, d1, d2, d3, d4⟩ := t_gcd (a := a) (b := j + 1) (by omega) (by omega) (by omega)
            have dn : ¬ d = 0 := by omega
            subst es es'
            have jl : j < j + 1 := by omega
            simp (disch := omega) only [n32_lit, n32_add, n32_mul, n32_lt, n32_le, n32_eq, n32_nat, n32_inb, gd_dec, gd_one, nm_eq, jn_eq, Option.bind_some, Nat.reduceAdd, Nat.reduceMul, Nat.reduceSub, Nat.reduceLT, Nat.reduceLeDiff, Nat.reduceEqDiff, ↓reduceIte, decide_true, decide_false, and_true, true_and, and_false, false_and, or_false, false_or, or_true, true_or, not_true_eq_false, not_false_eq_true, eq_self, Nat.zero_add, Nat.add_zero, Nat.mul_zero, Nat.mul_one, Nat.zero_le, Nat.not_lt_zero, bind_sm, bind_sm2, jl, d3, d4, dn]
            rcases (show wh = 0 ∨ wh = 1 by omega) with rfl | rfl
            · simp (disch := omega) only [n32_lit, n32_add, n32_mul, n32_lt, n32_le, n32_eq, n32_nat, n32_inb, gd_dec, gd_one, nm_eq, jn_eq, Option.bind_some, Nat.reduceAdd, Nat.reduceMul, Nat.reduceSub, Nat.reduceLT, Nat.reduceLeDiff, Nat.reduceEqDiff, ↓reduceIte, decide_true, decide_false, and_true, true_and, and_false, false_and, or_false, false_or, or_true, true_or, not_true_eq_false, not_false_eq_true, eq_self, Nat.zero_add, Nat.add_zero, Nat.mul_zero, Nat.mul_one, Nat.zero_le, Nat.not_lt_zero, bind_sm, bind_sm2, dn, n32_div]
              exact ok2_some rfl
            · simp (disch := omega) only [n32_lit, n32_add, n32_mul, n32_lt, n32_le, n32_eq, n32_nat, n32_inb, gd_dec, gd_one, nm_eq, jn_eq, Option.bind_some, Nat.reduceAdd, Nat.reduceMul, Nat.reduceSub, Nat.reduceLT, Nat.reduceLeDiff, Nat.reduceEqDiff, ↓reduceIte, decide_true, decide_false, and_true, true_and, and_false, false_and, or_false, false_or, or_true, true_or, not_true_eq_false, not_false_eq_true, eq_self, Nat.zero_add, Nat.add_zero, Nat.mul_zero, Nat.mul_one, Nat.zero_le, Nat.not_lt_zero, bind_sm, bind_sm2, dn, n32_div]
              exact ok2_some rfl
          · intro i t t' s s' hi ⟨a, ha, es, es'⟩
            left
            have e7 := t_mayDrive h1 hv hp (g := v (72 + 4 * p + 2) + i) (mn := n) (by omega) hn
            have e8 := t_mayDriveC hc hv hp (g := v (72 + 4 * p + 2) + i) (mn := n) (by omega) hn
            have hn : ¬ j < i := by omega
            subst es es'
            refine ⟨n32 (a + md v p (v (72 + 4 * p + 2) + i) n), n32 (a + md v p (v (72 + 4 * p + 2) + i) n), ⟨_, ?_, rfl, rfl⟩, ?_, ?_⟩
            · rcases md01 v p (v (72 + 4 * p + 2) + i) n with z | z <;> rw [z] <;> omega
            · refine Eq.trans (f_X7_odds_L48.eq_2 _ _ _ _ _ _ _ _) ?_
              simp (disch := omega) only [n32_lit, n32_add, n32_mul, n32_lt, n32_le, n32_eq, n32_nat, n32_inb, gd_dec, gd_one, nm_eq, jn_eq, Option.bind_some, Nat.reduceAdd, Nat.reduceMul, Nat.reduceSub, Nat.reduceLT, Nat.reduceLeDiff, Nat.reduceEqDiff, ↓reduceIte, decide_true, decide_false, and_true, true_and, and_false, false_and, or_false, false_or, or_true, true_or, not_true_eq_false, not_false_eq_true, eq_self, Nat.zero_add, Nat.add_zero, Nat.mul_zero, Nat.mul_one, Nat.zero_le, Nat.not_lt_zero, bind_sm, bind_sm2, hn, a3, e8]
              rcases md01 v p (v (72 + 4 * p + 2) + i) n with z | z <;> rw [z]
              · simp (disch := omega) only [n32_lit, n32_add, n32_mul, n32_lt, n32_le, n32_eq, n32_nat, n32_inb, gd_dec, gd_one, nm_eq, jn_eq, Option.bind_some, Nat.reduceAdd, Nat.reduceMul, Nat.reduceSub, Nat.reduceLT, Nat.reduceLeDiff, Nat.reduceEqDiff, ↓reduceIte, decide_true, decide_false, and_true, true_and, and_false, false_and, or_false, false_or, or_true, true_or, not_true_eq_false, not_false_eq_true, eq_self, Nat.zero_add, Nat.add_zero, Nat.mul_zero, Nat.mul_one, Nat.zero_le, Nat.not_lt_zero, bind_sm, bind_sm2]
              · simp (disch := omega) only [n32_lit, n32_add, n32_mul, n32_lt, n32_le, n32_eq, n32_nat, n32_inb, gd_dec, gd_one, nm_eq, jn_eq, Option.bind_some, Nat.reduceAdd, Nat.reduceMul, Nat.reduceSub, Nat.reduceLT, Nat.reduceLeDiff, Nat.reduceEqDiff, ↓reduceIte, decide_true, decide_false, and_true, true_and, and_false, false_and, or_false, false_or, or_true, true_or, not_true_eq_false, not_false_eq_true, eq_self, Nat.zero_add, Nat.add_zero, Nat.mul_zero, Nat.mul_one, Nat.zero_le, Nat.not_lt_zero, bind_sm, bind_sm2]
            · refine Eq.trans (f_X8_odds_L52.eq_2 _ _ _ _ _ _ _ _) ?_
              simp (disch := omega) only [n32_lit, n32_add, n32_mul, n32_lt, n32_le, n32_eq, n32_nat, n32_inb, gd_dec, gd_one, nm_eq, jn_eq, Option.bind_some, Nat.reduceAdd, Nat.reduceMul, Nat.reduceSub, Nat.reduceLT, Nat.reduceLeDiff, Nat.reduceEqDiff, ↓reduceIte, decide_true, decide_false, and_true, true_and, and_false, false_and, or_false, false_or, or_true, true_or, not_true_eq_false, not_false_eq_true, eq_self, Nat.zero_add, Nat.add_zero, Nat.mul_zero, Nat.mul_one, Nat.zero_le, Nat.not_lt_zero, bind_sm, bind_sm2, hn, e4, e7]
              rcases md01 v p (v (72 + 4 * p + 2) + i) n with z | z <;> rw [z]
              · simp (disch := omega) only [n32_lit, n32_add, n32_mul, n32_lt, n32_le, n32_eq, n32_nat, n32_inb, gd_dec, gd_one, nm_eq, jn_eq, Option.bind_some, Nat.reduceAdd, Nat.reduceMul, Nat.reduceSub, Nat.reduceLT, Nat.reduceLeDiff, Nat.reduceEqDiff, ↓reduceIte, decide_true, decide_false, and_true, true_and, and_false, false_and, or_false, false_or, or_true, true_or, not_true_eq_false, not_false_eq_true, eq_self, Nat.zero_add, Nat.add_zero, Nat.mul_zero, Nat.mul_one, Nat.zero_le, Nat.not_lt_zero, bind_sm, bind_sm2]
              · simp (disch := omega) only [n32_lit, n32_add, n32_mul, n32_lt, n32_le, n32_eq, n32_nat, n32_inb, gd_dec, gd_one, nm_eq, jn_eq, Option.bind_some, Nat.reduceAdd, Nat.reduceMul, Nat.reduceSub, Nat.reduceLT, Nat.reduceLeDiff, Nat.reduceEqDiff, ↓reduceIte, decide_true, decide_false, and_true, true_and, and_false, false_and, or_false, false_or, or_true, true_or, not_true_eq_false, not_false_eq_true, eq_self, Nat.zero_add, Nat.add_zero, Nat.mul_zero, Nat.mul_one, Nat.zero_le, Nat.not_lt_zero, bind_sm, bind_sm2]
        · rw [in_no (b := 1) (k := 1) rfl (by decide) q]
          have j9 : ¬ 9 < j := by omega
          by_cases z0 : w < n32 0
          · simp (disch := omega) only [n32_lit, n32_add, n32_mul, n32_lt, n32_le, n32_eq, n32_nat, n32_inb, gd_dec, gd_one, nm_eq, jn_eq, Option.bind_some, Nat.reduceAdd, Nat.reduceMul, Nat.reduceSub, Nat.reduceLT, Nat.reduceLeDiff, Nat.reduceEqDiff, ↓reduceIte, decide_true, decide_false, and_true, true_and, and_false, false_and, or_false, false_or, or_true, true_or, not_true_eq_false, not_false_eq_true, eq_self, Nat.zero_add, Nat.add_zero, Nat.mul_zero, Nat.mul_one, Nat.zero_le, Nat.not_lt_zero, bind_sm, bind_sm2, j9, z0]
            exact ⟨_, rfl, rfl⟩
          · have z2 : (w ≤ n32 1) = False := eq_false (by rw [i32_nle]; exact q.resolve_left z0)
            simp (disch := omega) only [n32_lit, n32_add, n32_mul, n32_lt, n32_le, n32_eq, n32_nat, n32_inb, gd_dec, gd_one, nm_eq, jn_eq, Option.bind_some, Nat.reduceAdd, Nat.reduceMul, Nat.reduceSub, Nat.reduceLT, Nat.reduceLeDiff, Nat.reduceEqDiff, ↓reduceIte, decide_true, decide_false, and_true, true_and, and_false, false_and, or_false, false_or, or_true, true_or, not_true_eq_false, not_false_eq_true, eq_self, Nat.zero_add, Nat.add_zero, Nat.mul_zero, Nat.mul_one, Nat.zero_le, Nat.not_lt_zero, bind_sm, bind_sm2, j9, z0, z2]
            exact ⟨_, rfl, rfl⟩
      · rw [in_no (b := 9) (k := 9) rfl (by decide) q]
        by_cases z0 : z < n32 0
        · simp (disch := omega) only [n32_lit, n32_add, n32_mul, n32_lt, n32_le, n32_eq, n32_nat, n32_inb, gd_dec, gd_one, nm_eq, jn_eq, Option.bind_some, Nat.reduceAdd, Nat.reduceMul, Nat.reduceSub, Nat.reduceLT, Nat.reduceLeDiff, Nat.reduceEqDiff, ↓reduceIte, decide_true, decide_false, and_true, true_and, and_false, false_and, or_false, false_or, or_true, true_or, not_true_eq_false, not_false_eq_true, eq_self, Nat.zero_add, Nat.add_zero, Nat.mul_zero, Nat.mul_one, Nat.zero_le, Nat.not_lt_zero, bind_sm, bind_sm2, z0]
          exact ⟨_, rfl, rfl⟩
        · have z1 : n32 9 < z := q.resolve_left z0
          simp (disch := omega) only [n32_lit, n32_add, n32_mul, n32_lt, n32_le, n32_eq, n32_nat, n32_inb, gd_dec, gd_one, nm_eq, jn_eq, Option.bind_some, Nat.reduceAdd, Nat.reduceMul, Nat.reduceSub, Nat.reduceLT, Nat.reduceLeDiff, Nat.reduceEqDiff, ↓reduceIte, decide_true, decide_false, and_true, true_and, and_false, false_and, or_false, false_or, or_true, true_or, not_true_eq_false, not_false_eq_true, eq_self, Nat.zero_add, Nat.add_zero, Nat.mul_zero, Nat.mul_one, Nat.zero_le, Nat.not_lt_zero, bind_sm, bind_sm2, z0, z1]
          exact ⟨_, rfl, rfl⟩
    · rw [e5, e6]
      simp (disch := omega) only [n32_lit, n32_add, n32_mul, n32_lt, n32_le, n32_eq, n32_nat, n32_inb, gd_dec, gd_one, nm_eq, jn_eq, Option.bind_some, Nat.reduceAdd, Nat.reduceMul, Nat.reduceSub, Nat.reduceLT, Nat.reduceLeDiff, Nat.reduceEqDiff, ↓reduceIte, decide_true, decide_false, and_true, true_and, and_false, false_and, or_false, false_or, or_true, true_or, not_true_eq_false, not_false_eq_true, eq_self, Nat.zero_add, Nat.add_zero, Nat.mul_zero, Nat.mul_one, Nat.zero_le, Nat.not_lt_zero, bind_sm, bind_sm2]
      exact ⟨_, rfl, rfl⟩
  · rw [e1, e2]
    simp (disch := omega) only [n32_lit, n32_add, n32_mul, n32_lt, n32_le, n32_eq, n32_nat, n32_inb, gd_dec, gd_one, nm_eq, jn_eq, Option.bind_some, Nat.reduceAdd, Nat.reduceMul, Nat.reduceSub, Nat.reduceLT, Nat.reduceLeDiff, Nat.reduceEqDiff, ↓reduceIte, decide_true, decide_false, and_true, true_and, and_false, false_and, or_false, false_or, or_true, true_or, not_true_eq_false, not_false_eq_true, eq_self, Nat.zero_add, Nat.add_zero, Nat.mul_zero, Nat.mul_one, Nat.zero_le, Nat.not_lt_zero, bind_sm, bind_sm2]
    exact ⟨_, rfl, rfl⟩
end EV
