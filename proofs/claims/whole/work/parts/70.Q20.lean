/-! words on both sides; people -/
theorem wc_lt : ∀ i, i < 11 → wc i < 9223372036854775808 := by decide +kernel
theorem k_law : (7102839 : Int64) = n64 (wc 0) := by decide +kernel
theorem k_way : (7823737 : Int64) = n64 (wc 1) := by decide +kernel
theorem k_hill : (1751739500 : Int64) = n64 (wc 2) := by decide +kernel
theorem k_person : (123581014175598 : Int64) = n64 (wc 3) := by decide +kernel
theorem k_car : (6513010 : Int64) = n64 (wc 4) := by decide +kernel
theorem k_quarrel : (31935733760681324 : Int64) = n64 (wc 5) := by decide +kernel
theorem k_plain : (482854660462 : Int64) = n64 (wc 6) := by decide +kernel
theorem k_sick : (1936286571 : Int64) = n64 (wc 7) := by decide +kernel
theorem k_child : (426953501796 : Int64) = n64 (wc 8) := by decide +kernel
theorem k_driver : (110442558416242 : Int64) = n64 (wc 9) := by decide +kernel
theorem k_stranger : (8319400174449812850 : Int64) = n64 (wc 10) := by decide +kernel
section TK
variable {n e fk fp : Nat} {tp : Nat → Nat} {m w m2 : Mem} {v : Nat → Nat}
theorem wcmp (he : e ≤ n) {i : Nat} (hi : i < 11) : (lg_cmp (n64 (wv n tp e)) (n64 (wc i)) = n32 0) = wdQ n tp e i := by
  refine (cmp_eq _ _).trans ?_
  rw [n64_eq (wv_lt he) (wc_lt i hi)]
  exact propext (wd_wv he hi)
theorem wcmp0 {i : Nat} (hi : i < 11) : (lg_cmp (n64 0) (n64 (wc i)) = n32 0) = False := by
  refine (cmp_eq _ _).trans ?_
  rw [n64_eq (by omega) (wc_lt i hi)]
  have : ∀ i, i < 11 → ¬ 0 = wc i := by decide +kernel
  exact eq_false (this i hi)
theorem kind_both (he : e ≤ n) (h7 : TP7 n tp m) (ht : Tok7 n tp e m) : (f_X8_kindBy (n64 (wv n tp e)) = some (-n32 1000000) ∧ f_X5_kindWord m = some (n32 0)) ∨ ∃ k, 1 ≤ k ∧ k ≤ 5 ∧ f_X8_kindBy (n64 (wv n tp e)) = some (n32 k) ∧ f_X5_kindWord m = some (n32 k) := by
  unfold f_X8_kindBy f_X5_kindWord
  rw [k_plain, k_sick, k_child, k_driver, k_stranger]
  have c6 := wcmp (tp := tp) he (i := 6) (by omega)
  have c7 := wcmp (tp := tp) he (i := 7) (by omega)
  have c8 := wcmp (tp := tp) he (i := 8) (by omega)
  have c9 := wcmp (tp := tp) he (i := 9) (by omega)
  have c10 := wcmp (tp := tp) he (i := 10) (by omega)
  rcases t_isWord h7 he ht (i := 6) (by omega) with ⟨a, b⟩ | ⟨a, b⟩
  · right
    refine ⟨1, by omega, by omega, ?_, ?_⟩
    · simp (maxSteps := 400000) (disch := omega) only [n32_lit, n32_add, n32_mul, n32_lt, n32_le, n32_eq, n32_nat, n32_inb, gd_dec, gdE, ↓nmE, ↓jnE, ↓bsE, Nat.reduceAdd, Nat.reduceMul, Nat.reduceSub, Nat.reduceLT, Nat.reduceLeDiff, Nat.reduceEqDiff, ↓reduceIte, decide_true, decide_false, and_true, true_and, and_false, false_and, or_false, false_or, or_true, true_or, not_true_eq_false, not_false_eq_true, eq_self, Nat.zero_add, Nat.add_zero, Nat.mul_zero, Nat.mul_one, Nat.zero_le, Nat.not_lt_zero, bind_sm, bind_sm2, c6, a]
    · simp (maxSteps := 400000) (disch := omega) only [n32_lit, n32_add, n32_mul, n32_lt, n32_le, n32_eq, n32_nat, n32_inb, gd_dec, gdE, ↓nmE, ↓jnE, ↓bsE, Nat.reduceAdd, Nat.reduceMul, Nat.reduceSub, Nat.reduceLT, Nat.reduceLeDiff, Nat.reduceEqDiff, ↓reduceIte, decide_true, decide_false, and_true, true_and, and_false, false_and, or_false, false_or, or_true, true_or, not_true_eq_false, not_false_eq_true, eq_self, Nat.zero_add, Nat.add_zero, Nat.mul_zero, Nat.mul_one, Nat.zero_le, Nat.not_lt_zero, bind_sm, bind_sm2, b]
  rcases t_isWord h7 he ht (i := 7) (by omega) with ⟨a1, b1⟩ | ⟨a1, b1⟩
  · right
    refine ⟨4, by omega, by omega, ?_, ?_⟩
    · simp (maxSteps := 400000) (disch := omega) only [n32_lit, n32_add, n32_mul, n32_lt, n32_le, n32_eq, n32_nat, n32_inb, gd_dec, gdE, ↓nmE, ↓jnE, ↓bsE, Nat.reduceAdd, Nat.reduceMul, Nat.reduceSub, Nat.reduceLT, Nat.reduceLeDiff, Nat.reduceEqDiff, ↓reduceIte, decide_true, decide_false, and_true, true_and, and_false, false_and, or_false, false_or, or_true, true_or, not_true_eq_false, not_false_eq_true, eq_self, Nat.zero_add, Nat.add_zero, Nat.mul_zero, Nat.mul_one, Nat.zero_le, Nat.not_lt_zero, bind_sm, bind_sm2, c6, a, c7, a1]
    · simp (maxSteps := 400000) (disch := omega) only [n32_lit, n32_add, n32_mul, n32_lt, n32_le, n32_eq, n32_nat, n32_inb, gd_dec, gdE, ↓nmE, ↓jnE, ↓bsE, Nat.reduceAdd, Nat.reduceMul, Nat.reduceSub, Nat.reduceLT, Nat.reduceLeDiff, Nat.reduceEqDiff, ↓reduceIte, decide_true, decide_false, and_true, true_and, and_false, false_and, or_false, false_or, or_true, true_or, not_true_eq_false, not_false_eq_true, eq_self, Nat.zero_add, Nat.add_zero, Nat.mul_zero, Nat.mul_one, Nat.zero_le, Nat.not_lt_zero, bind_sm, bind_sm2, b, b1]
  rcases t_isWord h7 he ht (i := 8) (by omega) with ⟨a2, b2⟩ | ⟨a2, b2⟩
  · right
    refine ⟨5, by omega, by omega, ?_, ?_⟩
    · simp (maxSteps := 400000) (disch := omega) only [n32_lit, n32_add, n32_mul, n32_lt, n32_le, n32_eq, n32_nat, n32_inb, gd_dec, gdE, ↓nmE, ↓jnE, ↓bsE, Nat.reduceAdd, Nat.reduceMul, Nat.reduceSub, Nat.reduceLT, Nat.reduceLeDiff, Nat.reduceEqDiff, ↓reduceIte, decide_true, decide_false, and_true, true_and, and_false, false_and, or_false, false_or, or_true, true_or, not_true_eq_false, not_false_eq_true, eq_self, Nat.zero_add, Nat.add_zero, Nat.mul_zero, Nat.mul_one, Nat.zero_le, Nat.not_lt_zero, bind_sm, bind_sm2, c6, a, c7, a1, c8, a2]
    · simp (maxSteps := 400000) (disch := omega) only [n32_lit, n32_add, n32_mul, n32_lt, n32_le, n32_eq, n32_nat, n32_inb, gd_dec, gdE, ↓nmE, ↓jnE, ↓bsE, Nat.reduceAdd, Nat.reduceMul, Nat.reduceSub, Nat.reduceLT, Nat.reduceLeDiff, Nat.reduceEqDiff, ↓reduceIte, decide_true, decide_false, and_true, true_and, and_false, false_and, or_false, false_or, or_true, true_or, not_true_eq_false, not_false_eq_true, eq_self, Nat.zero_add, Nat.add_zero, Nat.mul_zero, Nat.mul_one, Nat.zero_le, Nat.not_lt_zero, bind_sm, bind_sm2, b, b1, b2]
  rcases t_isWord h7 he ht (i := 9) (by omega) with ⟨a3, b3⟩ | ⟨a3, b3⟩
  · right
    refine ⟨2, by omega, by omega, ?_, ?_⟩
    · simp (maxSteps := 400000) (disch := omega) only [n32_lit, n32_add, n32_mul, n32_lt, n32_le, n32_eq, n32_nat, n32_inb, gd_dec, gdE, ↓nmE, ↓jnE, ↓bsE, Nat.reduceAdd, Nat.reduceMul, Nat.reduceSub, Nat.reduceLT, Nat.reduceLeDiff, Nat.reduceEqDiff, ↓reduceIte, decide_true, decide_false, and_true, true_and, and_false, false_and, or_false, false_or, or_true, true_or, not_true_eq_false, not_false_eq_true, eq_self, Nat.zero_add, Nat.add_zero, Nat.mul_zero, Nat.mul_one, Nat.zero_le, Nat.not_lt_zero, bind_sm, bind_sm2, c6, a, c7, a1, c8, a2, c9, a3]
    · simp (maxSteps := 400000) (disch := omega) only [n32_lit, n32_add, n32_mul, n32_lt, n32_le, n32_eq, n32_nat, n32_inb, gd_dec, gdE, ↓nmE, ↓jnE, ↓bsE, Nat.reduceAdd, Nat.reduceMul, Nat.reduceSub, Nat.reduceLT, Nat.reduceLeDiff, Nat.reduceEqDiff, ↓reduceIte, decide_true, decide_false, and_true, true_and, and_false, false_and, or_false, false_or, or_true, true_or, not_true_eq_false, not_false_eq_true, eq_self, Nat.zero_add, Nat.add_zero, Nat.mul_zero, Nat.mul_one, Nat.zero_le, Nat.not_lt_zero, bind_sm, bind_sm2, b, b1, b2, b3]
  rcases t_isWord h7 he ht (i := 10) (by omega) with ⟨a4, b4⟩ | ⟨a4, b4⟩
  · right
    refine ⟨3, by omega, by omega, ?_, ?_⟩
    · simp (maxSteps := 400000) (disch := omega) only [n32_lit, n32_add, n32_mul, n32_lt, n32_le, n32_eq, n32_nat, n32_inb, gd_dec, gdE, ↓nmE, ↓jnE, ↓bsE, Nat.reduceAdd, Nat.reduceMul, Nat.reduceSub, Nat.reduceLT, Nat.reduceLeDiff, Nat.reduceEqDiff, ↓reduceIte, decide_true, decide_false, and_true, true_and, and_false, false_and, or_false, false_or, or_true, true_or, not_true_eq_false, not_false_eq_true, eq_self, Nat.zero_add, Nat.add_zero, Nat.mul_zero, Nat.mul_one, Nat.zero_le, Nat.not_lt_zero, bind_sm, bind_sm2, c6, a, c7, a1, c8, a2, c9, a3, c10, a4]
    · simp (maxSteps := 400000) (disch := omega) only [n32_lit, n32_add, n32_mul, n32_lt, n32_le, n32_eq, n32_nat, n32_inb, gd_dec, gdE, ↓nmE, ↓jnE, ↓bsE, Nat.reduceAdd, Nat.reduceMul, Nat.reduceSub, Nat.reduceLT, Nat.reduceLeDiff, Nat.reduceEqDiff, ↓reduceIte, decide_true, decide_false, and_true, true_and, and_false, false_and, or_false, false_or, or_true, true_or, not_true_eq_false, not_false_eq_true, eq_self, Nat.zero_add, Nat.add_zero, Nat.mul_zero, Nat.mul_one, Nat.zero_le, Nat.not_lt_zero, bind_sm, bind_sm2, b, b1, b2, b3, b4]
  · left
    refine ⟨?_, ?_⟩
    · simp (maxSteps := 400000) (disch := omega) only [n32_lit, n32_add, n32_mul, n32_lt, n32_le, n32_eq, n32_nat, n32_inb, gd_dec, gdE, ↓nmE, ↓jnE, ↓bsE, Nat.reduceAdd, Nat.reduceMul, Nat.reduceSub, Nat.reduceLT, Nat.reduceLeDiff, Nat.reduceEqDiff, ↓reduceIte, decide_true, decide_false, and_true, true_and, and_false, false_and, or_false, false_or, or_true, true_or, not_true_eq_false, not_false_eq_true, eq_self, Nat.zero_add, Nat.add_zero, Nat.mul_zero, Nat.mul_one, Nat.zero_le, Nat.not_lt_zero, bind_sm, bind_sm2, c6, a, c7, a1, c8, a2, c9, a3, c10, a4]
    · simp (maxSteps := 400000) (disch := omega) only [n32_lit, n32_add, n32_mul, n32_lt, n32_le, n32_eq, n32_nat, n32_inb, gd_dec, gdE, ↓nmE, ↓jnE, ↓bsE, Nat.reduceAdd, Nat.reduceMul, Nat.reduceSub, Nat.reduceLT, Nat.reduceLeDiff, Nat.reduceEqDiff, ↓reduceIte, decide_true, decide_false, and_true, true_and, and_false, false_and, or_false, false_or, or_true, true_or, not_true_eq_false, not_false_eq_true, eq_self, Nat.zero_add, Nat.add_zero, Nat.mul_zero, Nat.mul_one, Nat.zero_le, Nat.not_lt_zero, bind_sm, bind_sm2, b, b1, b2, b3, b4]
theorem kindF : f_X8_kindBy (n64 0) = some (-n32 1000000) := by
  unfold f_X8_kindBy
  rw [k_plain, k_sick, k_child, k_driver, k_stranger]
  simp (maxSteps := 400000) (disch := omega) only [n32_lit, n32_add, n32_mul, n32_lt, n32_le, n32_eq, n32_nat, n32_inb, gd_dec, gdE, ↓nmE, ↓jnE, ↓bsE, Nat.reduceAdd, Nat.reduceMul, Nat.reduceSub, Nat.reduceLT, Nat.reduceLeDiff, Nat.reduceEqDiff, ↓reduceIte, decide_true, decide_false, and_true, true_and, and_false, false_and, or_false, false_or, or_true, true_or, not_true_eq_false, not_false_eq_true, eq_self, Nat.zero_add, Nat.add_zero, Nat.mul_zero, Nat.mul_one, Nat.zero_le, Nat.not_lt_zero, bind_sm, bind_sm2, wcmp0 (i := 6) (by omega), wcmp0 (i := 7) (by omega), wcmp0 (i := 8) (by omega), wcmp0 (i := 9) (by omega), wcmp0 (i := 10) (by omega)]
theorem S8.name (h : S8 n tp e w) : f_X8_name w = some (n64 (wv n tp e)) := t_name h.1 h.2.2.1 h.2.1 h.2.2.2
theorem F8.name (h : F8 n tp fk fp w) : f_X8_name w = some (n64 0) := by
  obtain ⟨h1, ⟨e, he, ht⟩, hk, hf, -⟩ := h
  exact t_nameF h1 he ht hk hf
theorem neN {k : Nat} (hk : k < 2147483648) : (n32 k = -n32 1000000) = False := eq_false (fun q => by
  have := neg_ne (x := -n32 1000000) (by decide) (b := k) hk
  rw [← q] at this; exact of_eq_false this rfl)
/-- the class lays somebody down -/
theorem t_addPerson (hd : DR v w m2) {k hm g : Nat} (hk : 1 ≤ k ∧ k ≤ 5) (hh : 1 ≤ hm ∧ hm ≤ 7) (hg : g ≤ 9) (hr : v 4 < 7) : ∃ m2', f_X3_addPerson m2 (n32 k) (n32 hm) (n32 g) = some m2' ∧ DR (vset (vset (vset (vset v (72 + 4 * v 4) k) (72 + 4 * v 4 + 1) hm) (72 + 4 * v 4 + 2) g) 4 (v 4 + 1)) (up (up (up (up w 7 (72 + 4 * v 4) (n32 k)) 7 (72 + 4 * v 4 + 1) (n32 hm)) 7 (72 + 4 * v 4 + 2) (n32 g)) 7 4 (n32 (v 4 + 1))) m2' := by
  have hs := hd
  obtain ⟨h1, ⟨⟨c1, c2, c3, c4, c5, c6, ⟨s, s1, s2, s3⟩, c8, c9⟩, cF, c10, c11⟩, -⟩ := hs
  have e5 := t_isOfKind (k := k) (w := 4) hk (by omega)
  unfold f_X3_addPerson
  by_cases q : 4 ≤ k
  · refine ⟨_, ?_, dr_person1 hd hk hh hg hr q s1 s2⟩
    have i1 : isofk k 4 = 1 := by unfold isofk; rw [if_pos (by omega)]
    rw [i1] at e5
    simp (maxSteps := 400000) (disch := omega) only [n32_lit, n32_add, n32_mul, n32_lt, n32_le, n32_eq, n32_nat, n32_inb, gd_dec, gdE, ↓nmE, ↓jnE, ↓bsE, Nat.reduceAdd, Nat.reduceMul, Nat.reduceSub, Nat.reduceLT, Nat.reduceLeDiff, Nat.reduceEqDiff, ↓reduceIte, decide_true, decide_false, and_true, true_and, and_false, false_and, or_false, false_or, or_true, true_or, not_true_eq_false, not_false_eq_true, eq_self, Nat.zero_add, Nat.add_zero, Nat.mul_zero, Nat.mul_one, Nat.zero_le, Nat.not_lt_zero, bind_sm, bind_sm2, up_at, up_ms, up_mi, upA_at, upA_ms, c4, hr, e5, s2, n32_one, n32_or']
  · refine ⟨_, ?_, dr_person0 hd hk hh hg hr (by omega)⟩
    have i1 : isofk k 4 = 0 := by unfold isofk; rw [if_neg (by omega)]
    rw [i1] at e5
    simp (maxSteps := 400000) (disch := omega) only [n32_lit, n32_add, n32_mul, n32_lt, n32_le, n32_eq, n32_nat, n32_inb, gd_dec, gdE, ↓nmE, ↓jnE, ↓bsE, Nat.reduceAdd, Nat.reduceMul, Nat.reduceSub, Nat.reduceLT, Nat.reduceLeDiff, Nat.reduceEqDiff, ↓reduceIte, decide_true, decide_false, and_true, true_and, and_false, false_and, or_false, false_or, or_true, true_or, not_true_eq_false, not_false_eq_true, eq_self, Nat.zero_add, Nat.add_zero, Nat.mul_zero, Nat.mul_one, Nat.zero_le, Nat.not_lt_zero, bind_sm, bind_sm2, up_at, up_ms, up_mi, upA_at, upA_ms, c4, hr, e5]
theorem st_person (hd : DR v w m2) (h8 : S8 n tp e w) (h7 : TP7 n tp m) (ht : Tok7 n tp e m) (hk0 : tkK n tp e ≠ 0) : StO n tp e w m (f_X5_readPerson m2 m) (f_X8_readPerson w) := by
  have hs := hd
  obtain ⟨h1, ⟨⟨c1, c2, c3, c4, c5, c6, c7, c8, c9⟩, cF, c10, c11⟩, ⟨v4, v5, v0, v1, v6, v7, vP, vC⟩, vM, vq, v2, v3⟩ := hs
  obtain ⟨g1, g2⟩ := tkE_ge (tp := tp) h8.e_le
  have g3 := tkE_gt (tp := tp) h8.e_le hk0
  have sm : S7 n tp (tkE n tp e) m := ⟨h7, ht.2.2.1, g2⟩
  obtain ⟨w1, a1, a2, a3⟩ := r_begins h8 (s := 4) (room := 7) (by omega) (h1 4 (by omega)) (by omega) (by omega)
  unfold f_X5_readPerson f_X8_readPerson
  rcases a3 with ⟨z, b1⟩ | ⟨z, b1⟩
  · have c16 : v 4 < 7 := by omega
    obtain ⟨m1, t1, t2, t3, t4⟩ := c_token sm
    have hb := b1.e_le
    have nb := b1.name
    have o1 := tkE_ge (tp := tp) hb
    rcases kind_both hb t3 t4 with ⟨k1, k2⟩ | ⟨k, k1, k2, k3, k4⟩
    · obtain ⟨w2, d1, d2, d3⟩ := r_must0 b1
      obtain ⟨m3, f1, f2, f3⟩ := c_fail t4 1
      refine StO.bad (m2' := m2) ?_ ?_ (a2.trans d2) (t2.trans f2) f3 d3
      · simp (maxSteps := 400000) (disch := omega) only [n32_lit, n32_add, n32_mul, n32_lt, n32_le, n32_eq, n32_nat, n32_inb, gd_dec, gdE, ↓nmE, ↓jnE, ↓bsE, Nat.reduceAdd, Nat.reduceMul, Nat.reduceSub, Nat.reduceLT, Nat.reduceLeDiff, Nat.reduceEqDiff, ↓reduceIte, decide_true, decide_false, and_true, true_and, and_false, false_and, or_false, false_or, or_true, true_or, not_true_eq_false, not_false_eq_true, eq_self, Nat.zero_add, Nat.add_zero, Nat.mul_zero, Nat.mul_one, Nat.zero_le, Nat.not_lt_zero, bind_sm, bind_sm2, up_at, up_ms, up_mi, upA_at, upA_ms, c4, c16, t1, k2, f1, dec01]
      · simp (maxSteps := 400000) (disch := omega) only [n32_lit, n32_add, n32_mul, n32_lt, n32_le, n32_eq, n32_nat, n32_inb, gd_dec, gdE, ↓nmE, ↓jnE, ↓bsE, Nat.reduceAdd, Nat.reduceMul, Nat.reduceSub, Nat.reduceLT, Nat.reduceLeDiff, Nat.reduceEqDiff, ↓reduceIte, decide_true, decide_false, and_true, true_and, and_false, false_and, or_false, false_or, or_true, true_or, not_true_eq_false, not_false_eq_true, eq_self, Nat.zero_add, Nat.add_zero, Nat.mul_zero, Nat.mul_one, Nat.zero_le, Nat.not_lt_zero, bind_sm, bind_sm2, up_at, up_ms, up_mi, upA_at, upA_ms, a1, nb, k1, b1.2.2.2, d1, r_numberF d3, r_mustEndF d3, d3.ne]
    · obtain ⟨w2, d1, d2, d3⟩ := r_must1 b1
      have sm2 : S7 n tp (tkE n tp (tkE n tp e)) m1 := ⟨t3, t4.2.2.1, o1.2⟩
      have kk := neN (k := k) (by omega)
      have k0 : ¬ k = 0 := by omega
      obtain ⟨w3, m3, p1, p2, p3⟩ := both_number d3 sm2 1 (7 + 1) (by omega) (by omega)
      rw [dn_s] at p3
      rcases p3 with ⟨x1, x2, x3, x4, x5, x6, -⟩ | ⟨r, fk, fp, x1, x2, x3, x4⟩
      · obtain ⟨-, va1, va⟩ := x1
        generalize hA : nv n tp (tkE n tp (tkE n tp e)) = A at *
        obtain ⟨w4, m4, q1, q2, q3⟩ := both_number x5 x6 0 (9 + 1) (by omega) (by omega)
        rw [dn_s] at q3
        rcases q3 with ⟨y1, y2, y3, y4, y5, y6, -⟩ | ⟨r, fk, fp, y1, y2, y3, y4⟩
        · obtain ⟨-, -, vb⟩ := y1
          generalize hB : nv n tp (tkE n tp (tkE n tp (tkE n tp e))) = B at *
          obtain ⟨w5, m6, u1, u2, u3⟩ := both_sign y5 y6
          have q8 := a2.trans (d2.trans (p1.trans (q1.trans u1)))
          have q7 := t2.trans (p2.trans (q2.trans u2))
          have dw := hd.fr q8
          have h74 := dw.1 4 (by omega)
          obtain ⟨m2', j1, j2⟩ := t_addPerson dw (k := k) (hm := A) (g := B) ⟨k1, k2⟩ ⟨va1, by omega⟩ (by omega) c16
          rcases u3 with ⟨i1, i2, i3, i4⟩ | ⟨fk, fp, i1, i2, i3, i4⟩
          · refine ⟨n32 1, m2', m6, _, ?_, ?_, ?_, q7, Or.inl ⟨rfl, _, _, ?_, i4, ?_, j2⟩⟩
            · simp (maxSteps := 400000) (disch := omega) only [n32_lit, n32_add, n32_mul, n32_lt, n32_le, n32_eq, n32_nat, n32_inb, gd_dec, gdE, ↓nmE, ↓jnE, ↓bsE, Nat.reduceAdd, Nat.reduceMul, Nat.reduceSub, Nat.reduceLT, Nat.reduceLeDiff, Nat.reduceEqDiff, ↓reduceIte, decide_true, decide_false, and_true, true_and, and_false, false_and, or_false, false_or, or_true, true_or, not_true_eq_false, not_false_eq_true, eq_self, Nat.zero_add, Nat.add_zero, Nat.mul_zero, Nat.mul_one, Nat.zero_le, Nat.not_lt_zero, bind_sm, bind_sm2, up_at, up_ms, up_mi, upA_at, upA_ms, c4, c16, t1, k4, k0, x3, x4, y3, y4, j1, i2, dec11]
            · simp (maxSteps := 400000) (disch := omega) only [n32_lit, n32_add, n32_mul, n32_lt, n32_le, n32_eq, n32_nat, n32_inb, gd_dec, gdE, ↓nmE, ↓jnE, ↓bsE, Nat.reduceAdd, Nat.reduceMul, Nat.reduceSub, Nat.reduceLT, Nat.reduceLeDiff, Nat.reduceEqDiff, ↓reduceIte, decide_true, decide_false, and_true, true_and, and_false, false_and, or_false, false_or, or_true, true_or, not_true_eq_false, not_false_eq_true, eq_self, Nat.zero_add, Nat.add_zero, Nat.mul_zero, Nat.mul_one, Nat.zero_le, Nat.not_lt_zero, bind_sm, bind_sm2, up_at, up_ms, up_mi, upA_at, upA_ms, a1, nb, k3, b1.2.2.2, kk, d1, x2, y2, i1, i3.2.2.2, h74, show 72 + 4 * v 4 < 109 by omega, show 72 + 4 * v 4 + 1 < 109 by omega, show 72 + 4 * v 4 + 2 < 109 by omega]
            · exact (((q8.e.up 7 _ _ (Or.inl rfl)).up 7 _ _ (Or.inl rfl)).up 7 _ _ (Or.inl rfl)).up 7 _ _ (Or.inl rfl)
            · have o2 := tkE_ge (tp := tp) d3.e_le
              have o3 := tkE_ge (tp := tp) x5.e_le
              have o4 := tkE_ge (tp := tp) y5.e_le
              omega
            · exact (((i3.up7 _ _).up7 _ _).up7 _ _).up7 _ _
          · refine StO.bad (m2' := m2') ?_ ?_ q8 q7 i4 i3
            · simp (maxSteps := 400000) (disch := omega) only [n32_lit, n32_add, n32_mul, n32_lt, n32_le, n32_eq, n32_nat, n32_inb, gd_dec, gdE, ↓nmE, ↓jnE, ↓bsE, Nat.reduceAdd, Nat.reduceMul, Nat.reduceSub, Nat.reduceLT, Nat.reduceLeDiff, Nat.reduceEqDiff, ↓reduceIte, decide_true, decide_false, and_true, true_and, and_false, false_and, or_false, false_or, or_true, true_or, not_true_eq_false, not_false_eq_true, eq_self, Nat.zero_add, Nat.add_zero, Nat.mul_zero, Nat.mul_one, Nat.zero_le, Nat.not_lt_zero, bind_sm, bind_sm2, up_at, up_ms, up_mi, upA_at, upA_ms, c4, c16, t1, k4, k0, x3, x4, y3, y4, j1, i2, dec01]
            · simp (maxSteps := 400000) (disch := omega) only [n32_lit, n32_add, n32_mul, n32_lt, n32_le, n32_eq, n32_nat, n32_inb, gd_dec, gdE, ↓nmE, ↓jnE, ↓bsE, Nat.reduceAdd, Nat.reduceMul, Nat.reduceSub, Nat.reduceLT, Nat.reduceLeDiff, Nat.reduceEqDiff, ↓reduceIte, decide_true, decide_false, and_true, true_and, and_false, false_and, or_false, false_or, or_true, true_or, not_true_eq_false, not_false_eq_true, eq_self, Nat.zero_add, Nat.add_zero, Nat.mul_zero, Nat.mul_one, Nat.zero_le, Nat.not_lt_zero, bind_sm, bind_sm2, up_at, up_ms, up_mi, upA_at, upA_ms, a1, nb, k3, b1.2.2.2, kk, d1, x2, y2, i1, i3.ne]
        · refine StO.bad (m2' := m2) ?_ ?_ (a2.trans (d2.trans (p1.trans q1))) (t2.trans (p2.trans q2)) y4 y3
          · simp (maxSteps := 400000) (disch := omega) only [n32_lit, n32_add, n32_mul, n32_lt, n32_le, n32_eq, n32_nat, n32_inb, gd_dec, gdE, ↓nmE, ↓jnE, ↓bsE, Nat.reduceAdd, Nat.reduceMul, Nat.reduceSub, Nat.reduceLT, Nat.reduceLeDiff, Nat.reduceEqDiff, ↓reduceIte, decide_true, decide_false, and_true, true_and, and_false, false_and, or_false, false_or, or_true, true_or, not_true_eq_false, not_false_eq_true, eq_self, Nat.zero_add, Nat.add_zero, Nat.mul_zero, Nat.mul_one, Nat.zero_le, Nat.not_lt_zero, bind_sm, bind_sm2, up_at, up_ms, up_mi, upA_at, upA_ms, c4, c16, t1, k4, k0, x3, x4, y2]
          · simp (maxSteps := 400000) (disch := omega) only [n32_lit, n32_add, n32_mul, n32_lt, n32_le, n32_eq, n32_nat, n32_inb, gd_dec, gdE, ↓nmE, ↓jnE, ↓bsE, Nat.reduceAdd, Nat.reduceMul, Nat.reduceSub, Nat.reduceLT, Nat.reduceLeDiff, Nat.reduceEqDiff, ↓reduceIte, decide_true, decide_false, and_true, true_and, and_false, false_and, or_false, false_or, or_true, true_or, not_true_eq_false, not_false_eq_true, eq_self, Nat.zero_add, Nat.add_zero, Nat.mul_zero, Nat.mul_one, Nat.zero_le, Nat.not_lt_zero, bind_sm, bind_sm2, up_at, up_ms, up_mi, upA_at, upA_ms, a1, nb, k3, b1.2.2.2, kk, d1, x2, y1, r_mustEndF y3, y3.ne]
      · refine StO.bad (m2' := m2) ?_ ?_ (a2.trans (d2.trans p1)) (t2.trans p2) x4 x3
        · simp (maxSteps := 400000) (disch := omega) only [n32_lit, n32_add, n32_mul, n32_lt, n32_le, n32_eq, n32_nat, n32_inb, gd_dec, gdE, ↓nmE, ↓jnE, ↓bsE, Nat.reduceAdd, Nat.reduceMul, Nat.reduceSub, Nat.reduceLT, Nat.reduceLeDiff, Nat.reduceEqDiff, ↓reduceIte, decide_true, decide_false, and_true, true_and, and_false, false_and, or_false, false_or, or_true, true_or, not_true_eq_false, not_false_eq_true, eq_self, Nat.zero_add, Nat.add_zero, Nat.mul_zero, Nat.mul_one, Nat.zero_le, Nat.not_lt_zero, bind_sm, bind_sm2, up_at, up_ms, up_mi, upA_at, upA_ms, c4, c16, t1, k4, k0, x2]
        · simp (maxSteps := 400000) (disch := omega) only [n32_lit, n32_add, n32_mul, n32_lt, n32_le, n32_eq, n32_nat, n32_inb, gd_dec, gdE, ↓nmE, ↓jnE, ↓bsE, Nat.reduceAdd, Nat.reduceMul, Nat.reduceSub, Nat.reduceLT, Nat.reduceLeDiff, Nat.reduceEqDiff, ↓reduceIte, decide_true, decide_false, and_true, true_and, and_false, false_and, or_false, false_or, or_true, true_or, not_true_eq_false, not_false_eq_true, eq_self, Nat.zero_add, Nat.add_zero, Nat.mul_zero, Nat.mul_one, Nat.zero_le, Nat.not_lt_zero, bind_sm, bind_sm2, up_at, up_ms, up_mi, upA_at, upA_ms, a1, nb, k3, b1.2.2.2, kk, d1, x1, r_numberF x3, r_mustEndF x3, x3.ne]
  · obtain ⟨m3, d1, d2, d3⟩ := c_fail ht 3
    refine StO.bad (m2' := m2) ?_ ?_ a2 d2 d3 b1
    · simp (maxSteps := 400000) (disch := omega) only [n32_lit, n32_add, n32_mul, n32_lt, n32_le, n32_eq, n32_nat, n32_inb, gd_dec, gdE, ↓nmE, ↓jnE, ↓bsE, Nat.reduceAdd, Nat.reduceMul, Nat.reduceSub, Nat.reduceLT, Nat.reduceLeDiff, Nat.reduceEqDiff, ↓reduceIte, decide_true, decide_false, and_true, true_and, and_false, false_and, or_false, false_or, or_true, true_or, not_true_eq_false, not_false_eq_true, eq_self, Nat.zero_add, Nat.add_zero, Nat.mul_zero, Nat.mul_one, Nat.zero_le, Nat.not_lt_zero, bind_sm, bind_sm2, up_at, up_ms, up_mi, upA_at, upA_ms, c4, show ¬ v 4 < 7 by omega, d1, dec01]
    · simp (maxSteps := 400000) (disch := omega) only [n32_lit, n32_add, n32_mul, n32_lt, n32_le, n32_eq, n32_nat, n32_inb, gd_dec, gdE, ↓nmE, ↓jnE, ↓bsE, Nat.reduceAdd, Nat.reduceMul, Nat.reduceSub, Nat.reduceLT, Nat.reduceLeDiff, Nat.reduceEqDiff, ↓reduceIte, decide_true, decide_false, and_true, true_and, and_false, false_and, or_false, false_or, or_true, true_or, not_true_eq_false, not_false_eq_true, eq_self, Nat.zero_add, Nat.add_zero, Nat.mul_zero, Nat.mul_one, Nat.zero_le, Nat.not_lt_zero, bind_sm, bind_sm2, up_at, up_ms, up_mi, upA_at, upA_ms, a1, b1.name, kindF, r_numberF b1, r_mustEndF b1, b1.ne]
end TK
