/-! ask -/
theorem t_of0 {m0 : Mem} {v : Nat → Nat} (h : Sh (m0 6) v) {p : Nat} (hp : p < 7) : f_X8_of m0 (n32 p) (n32 0) = some (n32 (v (72 + 4 * p))) := t_of (k := 0) h hp (by omega)
theorem t_car00 {m0 : Mem} {v : Nat → Nat} (h : Sh (m0 6) v) {c : Nat} (hc : c < 3) : f_X8_car0 m0 (n32 c) (n32 0) = some (n32 (v (100 + 3 * c))) := t_car0 (k := 0) h hc (by omega)
theorem t_far0 {m0 : Mem} {v : Nat → Nat} (h : Sh (m0 6) v) {b : Nat} (hb : b < 8) : f_X8_farOf m0 (n32 0) (n32 b) = some (n32 (v (8 + b))) := t_farOf (a := 0) h (by omega) hb
def mkB (k : Nat) : Nat := if k = 1 then 21 else if k = 2 then 22 else if k = 3 then 24 else 23
def szB (k : Nat) : Nat := if k ≤ 2 then 11 else if k = 3 then 12 else if k = 4 then 13 else 14
theorem t_poseM {fs : Mem → Mem → Int32 → Int32 → Int32 → Option (Int32 × Mem)} {m1 m8 : Mem} {p k : Nat} (hp : p < 7) (hk : 1 ≤ k ∧ k ≤ 5) (e : m1 12 p = n32 k) (d : Int32) : f_X0_pose fs m1 m8 (n32 p) (n32 1) d = fs m1 m8 (n32 p) (n32 (mkB k)) d := by
  unfold f_X0_pose
  simp (maxSteps := 400000) (disch := omega) only [n32_lit, n32_add, n32_mul, n32_lt, n32_le, n32_eq, n32_nat, n32_inb, gd_dec, gdE, ↓nmE, ↓jnE, ↓bsE, Nat.reduceAdd, Nat.reduceMul, Nat.reduceSub, Nat.reduceLT, Nat.reduceLeDiff, Nat.reduceEqDiff, ↓reduceIte, decide_true, decide_false, and_true, true_and, and_false, false_and, or_false, false_or, or_true, true_or, not_true_eq_false, not_false_eq_true, eq_self, Nat.zero_add, Nat.add_zero, Nat.mul_zero, Nat.mul_one, Nat.zero_le, Nat.not_lt_zero, bind_sm, bind_sm2, hp, e]
  obtain ⟨h1, h2⟩ := hk
  rcases (show k = 1 ∨ k = 2 ∨ k = 3 ∨ k = 4 ∨ k = 5 by omega) with rfl | rfl | rfl | rfl | rfl
  · refine Eq.trans (f_X0_pose_L26.eq_2 _ _ _ _ 99999) ?_
    simp (maxSteps := 400000) (disch := omega) only [n32_lit, n32_add, n32_mul, n32_lt, n32_le, n32_eq, n32_nat, n32_inb, gd_dec, gdE, ↓nmE, ↓jnE, ↓bsE, Nat.reduceAdd, Nat.reduceMul, Nat.reduceSub, Nat.reduceLT, Nat.reduceLeDiff, Nat.reduceEqDiff, ↓reduceIte, decide_true, decide_false, and_true, true_and, and_false, false_and, or_false, false_or, or_true, true_or, not_true_eq_false, not_false_eq_true, eq_self, Nat.zero_add, Nat.add_zero, Nat.mul_zero, Nat.mul_one, Nat.zero_le, Nat.not_lt_zero, bind_sm, bind_sm2, show sta 2 1 = n32 21 from rfl]
    rfl
  · refine Eq.trans (f_X0_pose_L26.eq_2 _ _ _ _ 99999) ?_
    simp (maxSteps := 400000) (disch := omega) only [n32_lit, n32_add, n32_mul, n32_lt, n32_le, n32_eq, n32_nat, n32_inb, gd_dec, gdE, ↓nmE, ↓jnE, ↓bsE, Nat.reduceAdd, Nat.reduceMul, Nat.reduceSub, Nat.reduceLT, Nat.reduceLeDiff, Nat.reduceEqDiff, ↓reduceIte, decide_true, decide_false, and_true, true_and, and_false, false_and, or_false, false_or, or_true, true_or, not_true_eq_false, not_false_eq_true, eq_self, Nat.zero_add, Nat.add_zero, Nat.mul_zero, Nat.mul_one, Nat.zero_le, Nat.not_lt_zero, bind_sm, bind_sm2, show sta 2 2 = n32 22 from rfl]
    rfl
  · refine Eq.trans (f_X0_pose_L26.eq_2 _ _ _ _ 99999) ?_
    simp (maxSteps := 400000) (disch := omega) only [n32_lit, n32_add, n32_mul, n32_lt, n32_le, n32_eq, n32_nat, n32_inb, gd_dec, gdE, ↓nmE, ↓jnE, ↓bsE, Nat.reduceAdd, Nat.reduceMul, Nat.reduceSub, Nat.reduceLT, Nat.reduceLeDiff, Nat.reduceEqDiff, ↓reduceIte, decide_true, decide_false, and_true, true_and, and_false, false_and, or_false, false_or, or_true, true_or, not_true_eq_false, not_false_eq_true, eq_self, Nat.zero_add, Nat.add_zero, Nat.mul_zero, Nat.mul_one, Nat.zero_le, Nat.not_lt_zero, bind_sm, bind_sm2, show sta 2 3 = n32 24 from rfl]
    rfl
  · refine Eq.trans (f_X0_pose_L26.eq_2 _ _ _ _ 99999) ?_
    simp (maxSteps := 400000) (disch := omega) only [n32_lit, n32_add, n32_mul, n32_lt, n32_le, n32_eq, n32_nat, n32_inb, gd_dec, gdE, ↓nmE, ↓jnE, ↓bsE, Nat.reduceAdd, Nat.reduceMul, Nat.reduceSub, Nat.reduceLT, Nat.reduceLeDiff, Nat.reduceEqDiff, ↓reduceIte, decide_true, decide_false, and_true, true_and, and_false, false_and, or_false, false_or, or_true, true_or, not_true_eq_false, not_false_eq_true, eq_self, Nat.zero_add, Nat.add_zero, Nat.mul_zero, Nat.mul_one, Nat.zero_le, Nat.not_lt_zero, bind_sm, bind_sm2, show sta 2 4 = n32 23 from rfl]
    rfl
  · refine Eq.trans (f_X0_pose_L26.eq_2 _ _ _ _ 99999) ?_
    simp (maxSteps := 400000) (disch := omega) only [n32_lit, n32_add, n32_mul, n32_lt, n32_le, n32_eq, n32_nat, n32_inb, gd_dec, gdE, ↓nmE, ↓jnE, ↓bsE, Nat.reduceAdd, Nat.reduceMul, Nat.reduceSub, Nat.reduceLT, Nat.reduceLeDiff, Nat.reduceEqDiff, ↓reduceIte, decide_true, decide_false, and_true, true_and, and_false, false_and, or_false, false_or, or_true, true_or, not_true_eq_false, not_false_eq_true, eq_self, Nat.zero_add, Nat.add_zero, Nat.mul_zero, Nat.mul_one, Nat.zero_le, Nat.not_lt_zero, bind_sm, bind_sm2, show sta 2 5 = n32 0 from rfl, show sta 0 5 = n32 4 from rfl]
    refine Eq.trans (f_X0_pose_L26.eq_2 _ _ _ _ 99998) ?_
    simp (maxSteps := 400000) (disch := omega) only [n32_lit, n32_add, n32_mul, n32_lt, n32_le, n32_eq, n32_nat, n32_inb, gd_dec, gdE, ↓nmE, ↓jnE, ↓bsE, Nat.reduceAdd, Nat.reduceMul, Nat.reduceSub, Nat.reduceLT, Nat.reduceLeDiff, Nat.reduceEqDiff, ↓reduceIte, decide_true, decide_false, and_true, true_and, and_false, false_and, or_false, false_or, or_true, true_or, not_true_eq_false, not_false_eq_true, eq_self, Nat.zero_add, Nat.add_zero, Nat.mul_zero, Nat.mul_one, Nat.zero_le, Nat.not_lt_zero, bind_sm, bind_sm2, show sta 2 4 = n32 23 from rfl]
    rfl
theorem t_poseS {fs : Mem → Mem → Int32 → Int32 → Int32 → Option (Int32 × Mem)} {m1 m8 : Mem} {p k : Nat} (hp : p < 7) (hk : 1 ≤ k ∧ k ≤ 5) (e : m1 12 p = n32 k) (d : Int32) : f_X0_pose fs m1 m8 (n32 p) (n32 0) d = fs m1 m8 (n32 p) (n32 (szB k)) d := by
  unfold f_X0_pose
  simp (maxSteps := 400000) (disch := omega) only [n32_lit, n32_add, n32_mul, n32_lt, n32_le, n32_eq, n32_nat, n32_inb, gd_dec, gdE, ↓nmE, ↓jnE, ↓bsE, Nat.reduceAdd, Nat.reduceMul, Nat.reduceSub, Nat.reduceLT, Nat.reduceLeDiff, Nat.reduceEqDiff, ↓reduceIte, decide_true, decide_false, and_true, true_and, and_false, false_and, or_false, false_or, or_true, true_or, not_true_eq_false, not_false_eq_true, eq_self, Nat.zero_add, Nat.add_zero, Nat.mul_zero, Nat.mul_one, Nat.zero_le, Nat.not_lt_zero, bind_sm, bind_sm2, hp, e]
  obtain ⟨h1, h2⟩ := hk
  rcases (show k = 1 ∨ k = 2 ∨ k = 3 ∨ k = 4 ∨ k = 5 by omega) with rfl | rfl | rfl | rfl | rfl
  · refine Eq.trans (f_X0_pose_L26b.eq_2 _ _ _ _ 99999) ?_
    simp (maxSteps := 400000) (disch := omega) only [n32_lit, n32_add, n32_mul, n32_lt, n32_le, n32_eq, n32_nat, n32_inb, gd_dec, gdE, ↓nmE, ↓jnE, ↓bsE, Nat.reduceAdd, Nat.reduceMul, Nat.reduceSub, Nat.reduceLT, Nat.reduceLeDiff, Nat.reduceEqDiff, ↓reduceIte, decide_true, decide_false, and_true, true_and, and_false, false_and, or_false, false_or, or_true, true_or, not_true_eq_false, not_false_eq_true, eq_self, Nat.zero_add, Nat.add_zero, Nat.mul_zero, Nat.mul_one, Nat.zero_le, Nat.not_lt_zero, bind_sm, bind_sm2, show sta 1 1 = n32 11 from rfl]
    rfl
  · refine Eq.trans (f_X0_pose_L26b.eq_2 _ _ _ _ 99999) ?_
    simp (maxSteps := 400000) (disch := omega) only [n32_lit, n32_add, n32_mul, n32_lt, n32_le, n32_eq, n32_nat, n32_inb, gd_dec, gdE, ↓nmE, ↓jnE, ↓bsE, Nat.reduceAdd, Nat.reduceMul, Nat.reduceSub, Nat.reduceLT, Nat.reduceLeDiff, Nat.reduceEqDiff, ↓reduceIte, decide_true, decide_false, and_true, true_and, and_false, false_and, or_false, false_or, or_true, true_or, not_true_eq_false, not_false_eq_true, eq_self, Nat.zero_add, Nat.add_zero, Nat.mul_zero, Nat.mul_one, Nat.zero_le, Nat.not_lt_zero, bind_sm, bind_sm2, show sta 1 2 = n32 0 from rfl, show sta 0 2 = n32 1 from rfl]
    refine Eq.trans (f_X0_pose_L26b.eq_2 _ _ _ _ 99998) ?_
    simp (maxSteps := 400000) (disch := omega) only [n32_lit, n32_add, n32_mul, n32_lt, n32_le, n32_eq, n32_nat, n32_inb, gd_dec, gdE, ↓nmE, ↓jnE, ↓bsE, Nat.reduceAdd, Nat.reduceMul, Nat.reduceSub, Nat.reduceLT, Nat.reduceLeDiff, Nat.reduceEqDiff, ↓reduceIte, decide_true, decide_false, and_true, true_and, and_false, false_and, or_false, false_or, or_true, true_or, not_true_eq_false, not_false_eq_true, eq_self, Nat.zero_add, Nat.add_zero, Nat.mul_zero, Nat.mul_one, Nat.zero_le, Nat.not_lt_zero, bind_sm, bind_sm2, show sta 1 1 = n32 11 from rfl]
    rfl
  · refine Eq.trans (f_X0_pose_L26b.eq_2 _ _ _ _ 99999) ?_
    simp (maxSteps := 400000) (disch := omega) only [n32_lit, n32_add, n32_mul, n32_lt, n32_le, n32_eq, n32_nat, n32_inb, gd_dec, gdE, ↓nmE, ↓jnE, ↓bsE, Nat.reduceAdd, Nat.reduceMul, Nat.reduceSub, Nat.reduceLT, Nat.reduceLeDiff, Nat.reduceEqDiff, ↓reduceIte, decide_true, decide_false, and_true, true_and, and_false, false_and, or_false, false_or, or_true, true_or, not_true_eq_false, not_false_eq_true, eq_self, Nat.zero_add, Nat.add_zero, Nat.mul_zero, Nat.mul_one, Nat.zero_le, Nat.not_lt_zero, bind_sm, bind_sm2, show sta 1 3 = n32 12 from rfl]
    rfl
  · refine Eq.trans (f_X0_pose_L26b.eq_2 _ _ _ _ 99999) ?_
    simp (maxSteps := 400000) (disch := omega) only [n32_lit, n32_add, n32_mul, n32_lt, n32_le, n32_eq, n32_nat, n32_inb, gd_dec, gdE, ↓nmE, ↓jnE, ↓bsE, Nat.reduceAdd, Nat.reduceMul, Nat.reduceSub, Nat.reduceLT, Nat.reduceLeDiff, Nat.reduceEqDiff, ↓reduceIte, decide_true, decide_false, and_true, true_and, and_false, false_and, or_false, false_or, or_true, true_or, not_true_eq_false, not_false_eq_true, eq_self, Nat.zero_add, Nat.add_zero, Nat.mul_zero, Nat.mul_one, Nat.zero_le, Nat.not_lt_zero, bind_sm, bind_sm2, show sta 1 4 = n32 13 from rfl]
    rfl
  · refine Eq.trans (f_X0_pose_L26b.eq_2 _ _ _ _ 99999) ?_
    simp (maxSteps := 400000) (disch := omega) only [n32_lit, n32_add, n32_mul, n32_lt, n32_le, n32_eq, n32_nat, n32_inb, gd_dec, gdE, ↓nmE, ↓jnE, ↓bsE, Nat.reduceAdd, Nat.reduceMul, Nat.reduceSub, Nat.reduceLT, Nat.reduceLeDiff, Nat.reduceEqDiff, ↓reduceIte, decide_true, decide_false, and_true, true_and, and_false, false_and, or_false, false_or, or_true, true_or, not_true_eq_false, not_false_eq_true, eq_self, Nat.zero_add, Nat.add_zero, Nat.mul_zero, Nat.mul_one, Nat.zero_le, Nat.not_lt_zero, bind_sm, bind_sm2, show sta 1 5 = n32 14 from rfl]
    rfl
def Out (x : Option (Int32 × Mem)) (y : Option (Int32 × Mem)) (w0 : Mem) : Prop := ∃ a m8' w', x = some (a, m8') ∧ y = some (a, w') ∧ TrS w0 w' m8'
section EV
variable {w0 m1 : Mem} {v : Nat → Nat}
theorem a_plain (hs : Sh (w0 6) v) (hc : Cl m1 v) (h7 : v 4 ≤ 7) {p : Nat} (hp : p < v 4) {w m8 : Mem} (h : TrS w0 w m8) (n d : Nat) (hd : d ≤ 10) : ∃ m8' w', f_X0_begin (n + 1) m1 m8 (n32 p) (n32 10) (n32 d) = some (n32 (v (72 + 4 * p + 2)), m8') ∧ f_X8_plainSize w (n32 p) = some (n32 (v (72 + 4 * p + 2)), w') ∧ TrS w0 w' m8' := by
  obtain ⟨w', m8', e1, e2, h'⟩ := t_leave h (n32 10)
  obtain ⟨a1, a2, a3, a4⟩ := hc.1.2.2.2.2.2.2.2.1 p hp
  have e3 := t_of (k := 2) (h'.sh hs) (p := p) (by omega) (by omega)
  refine ⟨m8', w', ?_, ?_, h'⟩
  · show f_X0_begin_B (f_X0_begin n) m1 m8 (n32 p) (n32 10) (n32 d) = _
    unfold f_X0_begin_B
    simp (maxSteps := 400000) (disch := omega) only [n32_lit, n32_add, n32_mul, n32_lt, n32_le, n32_eq, n32_nat, n32_inb, gd_dec, gdE, ↓nmE, ↓jnE, ↓bsE, Nat.reduceAdd, Nat.reduceMul, Nat.reduceSub, Nat.reduceLT, Nat.reduceLeDiff, Nat.reduceEqDiff, ↓reduceIte, decide_true, decide_false, and_true, true_and, and_false, false_and, or_false, false_or, or_true, true_or, not_true_eq_false, not_false_eq_true, eq_self, Nat.zero_add, Nat.add_zero, Nat.mul_zero, Nat.mul_one, Nat.zero_le, Nat.not_lt_zero, bind_sm, bind_sm2, e2, show d ≤ 16 by omega, show p < 7 by omega, a3]
  · unfold f_X8_plainSize
    simp (maxSteps := 400000) (disch := omega) only [n32_lit, n32_add, n32_mul, n32_lt, n32_le, n32_eq, n32_nat, n32_inb, gd_dec, gdE, ↓nmE, ↓jnE, ↓bsE, Nat.reduceAdd, Nat.reduceMul, Nat.reduceSub, Nat.reduceLT, Nat.reduceLeDiff, Nat.reduceEqDiff, ↓reduceIte, decide_true, decide_false, and_true, true_and, and_false, false_and, or_false, false_or, or_true, true_or, not_true_eq_false, not_false_eq_true, eq_self, Nat.zero_add, Nat.add_zero, Nat.mul_zero, Nat.mul_one, Nat.zero_le, Nat.not_lt_zero, bind_sm, bind_sm2, e1, e3]
theorem a_sick (hs : Sh (w0 6) v) (hc : Cl m1 v) (h7 : v 4 ≤ 7) {p : Nat} (hp : p < v 4) (hk : 4 ≤ v (72 + 4 * p) ∧ v (72 + 4 * p) ≤ 5) {w m8 : Mem} (h : TrS w0 w m8) (n d : Nat) (hd : d ≤ 8) : Out (f_X0_begin (n + 3) m1 m8 (n32 p) (n32 (szB (v (72 + 4 * p)))) (n32 d)) (f_X8_sickSize w (n32 p)) w0 := by
  have e0 := t_of0 (h.sh hs) (p := p) (by omega)
  unfold f_X8_sickSize
  rcases (show v (72 + 4 * p) = 4 ∨ v (72 + 4 * p) = 5 by omega) with z | z
  · obtain ⟨w1, m81, e1, e2, h1⟩ := t_leave h (n32 13)
    obtain ⟨m82, w2, e3, e4, h2⟩ := a_plain hs hc h7 hp h1 (n + 1) (d + 1) (by omega)
    have e5 := t_of0 (h2.sh hs) (p := p) (by omega)
    rw [z] at e0 e5 ⊢
    refine ⟨n32 (v (72 + 4 * p + 2)) - n32 100, m82, w2, ?_, ?_, h2⟩
    · show f_X0_begin_B (f_X0_begin (n + 2)) m1 m8 (n32 p) (n32 13) (n32 d) = _
      unfold f_X0_begin_B
      simp (maxSteps := 400000) (disch := omega) only [n32_lit, n32_add, n32_mul, n32_lt, n32_le, n32_eq, n32_nat, n32_inb, gd_dec, gdE, ↓nmE, ↓jnE, ↓bsE, Nat.reduceAdd, Nat.reduceMul, Nat.reduceSub, Nat.reduceLT, Nat.reduceLeDiff, Nat.reduceEqDiff, ↓reduceIte, decide_true, decide_false, and_true, true_and, and_false, false_and, or_false, false_or, or_true, true_or, not_true_eq_false, not_false_eq_true, eq_self, Nat.zero_add, Nat.add_zero, Nat.mul_zero, Nat.mul_one, Nat.zero_le, Nat.not_lt_zero, bind_sm, bind_sm2, e2, show d ≤ 16 by omega, e3]
    · simp (maxSteps := 400000) (disch := omega) only [n32_lit, n32_add, n32_mul, n32_lt, n32_le, n32_eq, n32_nat, n32_inb, gd_dec, gdE, ↓nmE, ↓jnE, ↓bsE, Nat.reduceAdd, Nat.reduceMul, Nat.reduceSub, Nat.reduceLT, Nat.reduceLeDiff, Nat.reduceEqDiff, ↓reduceIte, decide_true, decide_false, and_true, true_and, and_false, false_and, or_false, false_or, or_true, true_or, not_true_eq_false, not_false_eq_true, eq_self, Nat.zero_add, Nat.add_zero, Nat.mul_zero, Nat.mul_one, Nat.zero_le, Nat.not_lt_zero, bind_sm, bind_sm2, e0, e1, e4, e5]
  · obtain ⟨w1, m81, e1, e2, h1⟩ := t_leave h (n32 14)
    obtain ⟨w2, m82, e3, e4, h2⟩ := t_leave h1 (n32 13)
    obtain ⟨m83, w3, e5, e6, h3⟩ := a_plain hs hc h7 hp h2 n (d + 1 + 1) (by omega)
    have e7 := t_of0 (h3.sh hs) (p := p) (by omega)
    rw [z] at e0 e7 ⊢
    have e8 : f_X0_begin (n + 2) m1 m81 (n32 p) (n32 13) (n32 (d + 1)) = some (n32 (v (72 + 4 * p + 2)) - n32 100, m83) := by
      show f_X0_begin_B (f_X0_begin (n + 1)) m1 m81 (n32 p) (n32 13) (n32 (d + 1)) = _
      unfold f_X0_begin_B
      simp (maxSteps := 400000) (disch := omega) only [n32_lit, n32_add, n32_mul, n32_lt, n32_le, n32_eq, n32_nat, n32_inb, gd_dec, gdE, ↓nmE, ↓jnE, ↓bsE, Nat.reduceAdd, Nat.reduceMul, Nat.reduceSub, Nat.reduceLT, Nat.reduceLeDiff, Nat.reduceEqDiff, ↓reduceIte, decide_true, decide_false, and_true, true_and, and_false, false_and, or_false, false_or, or_true, true_or, not_true_eq_false, not_false_eq_true, eq_self, Nat.zero_add, Nat.add_zero, Nat.mul_zero, Nat.mul_one, Nat.zero_le, Nat.not_lt_zero, bind_sm, bind_sm2, e4, show d + 1 ≤ 16 by omega, e5]
    refine ⟨n32 2 * (n32 (v (72 + 4 * p + 2)) - n32 100), m83, w3, ?_, ?_, h3⟩
    · show f_X0_begin_B (f_X0_begin (n + 2)) m1 m8 (n32 p) (n32 14) (n32 d) = _
      unfold f_X0_begin_B
      simp (maxSteps := 400000) (disch := omega) only [n32_lit, n32_add, n32_mul, n32_lt, n32_le, n32_eq, n32_nat, n32_inb, gd_dec, gdE, ↓nmE, ↓jnE, ↓bsE, Nat.reduceAdd, Nat.reduceMul, Nat.reduceSub, Nat.reduceLT, Nat.reduceLeDiff, Nat.reduceEqDiff, ↓reduceIte, decide_true, decide_false, and_true, true_and, and_false, false_and, or_false, false_or, or_true, true_or, not_true_eq_false, not_false_eq_true, eq_self, Nat.zero_add, Nat.add_zero, Nat.mul_zero, Nat.mul_one, Nat.zero_le, Nat.not_lt_zero, bind_sm, bind_sm2, e2, show d ≤ 16 by omega, e8]
    · simp (maxSteps := 400000) (disch := omega) only [n32_lit, n32_add, n32_mul, n32_lt, n32_le, n32_eq, n32_nat, n32_inb, gd_dec, gdE, ↓nmE, ↓jnE, ↓bsE, Nat.reduceAdd, Nat.reduceMul, Nat.reduceSub, Nat.reduceLT, Nat.reduceLeDiff, Nat.reduceEqDiff, ↓reduceIte, decide_true, decide_false, and_true, true_and, and_false, false_and, or_false, false_or, or_true, true_or, not_true_eq_false, not_false_eq_true, eq_self, Nat.zero_add, Nat.add_zero, Nat.mul_zero, Nat.mul_one, Nat.zero_le, Nat.not_lt_zero, bind_sm, bind_sm2, e0, e1, e3, e6, e7]
theorem a_mark (hs : Sh (w0 6) v) (hc : Cl m1 v) (h7 : v 4 ≤ 7) {p : Nat} (hp : p < v 4) (hk : 1 ≤ v (72 + 4 * p) ∧ v (72 + 4 * p) ≤ 5) {w m8 : Mem} (h : TrS w0 w m8) (n d : Nat) (hd : d ≤ 7) : Out (f_X0_begin (n + 4) m1 m8 (n32 p) (n32 (mkB (v (72 + 4 * p)))) (n32 d)) (f_X8_markOf w (n32 p)) w0 := by
  have e0 := t_of0 (h.sh hs) (p := p) (by omega)
  obtain ⟨a1, a2, a3, a4⟩ := hc.1.2.2.2.2.2.2.2.1 p hp
  -- body 21, wherever it begins
  have b21 : ∀ {w m8 : Mem}, TrS w0 w m8 → ∀ n d, d ≤ 9 → ∃ w1 w2 m82, f_X8_began w (n32 21) = some w1 ∧ f_X8_began w1 (n32 20) = some w2 ∧ f_X8_of w2 (n32 p) (n32 1) = some (n32 (v (72 + 4 * p + 1))) ∧ f_X0_begin (n + 2) m1 m8 (n32 p) (n32 21) (n32 d) = some (n32 p + n32 10 * n32 (v (72 + 4 * p + 1)), m82) ∧ TrS w0 w2 m82 := by
    intro w m8 h n d hd
    obtain ⟨w1, m81, e1, e2, h1⟩ := t_leave h (n32 21)
    obtain ⟨w2, m82, e3, e4, h2⟩ := t_leave h1 (n32 20)
    refine ⟨w1, w2, m82, e1, e3, t_of (k := 1) (h2.sh hs) (p := p) (by omega) (by omega), ?_, h2⟩
    have e5 : f_X0_begin (n + 1) m1 m81 (n32 p) (n32 20) (n32 (d + 1)) = some (n32 p, m82) := by
      show f_X0_begin_B (f_X0_begin n) m1 m81 (n32 p) (n32 20) (n32 (d + 1)) = _
      unfold f_X0_begin_B
      simp (maxSteps := 400000) (disch := omega) only [n32_lit, n32_add, n32_mul, n32_lt, n32_le, n32_eq, n32_nat, n32_inb, gd_dec, gdE, ↓nmE, ↓jnE, ↓bsE, Nat.reduceAdd, Nat.reduceMul, Nat.reduceSub, Nat.reduceLT, Nat.reduceLeDiff, Nat.reduceEqDiff, ↓reduceIte, decide_true, decide_false, and_true, true_and, and_false, false_and, or_false, false_or, or_true, true_or, not_true_eq_false, not_false_eq_true, eq_self, Nat.zero_add, Nat.add_zero, Nat.mul_zero, Nat.mul_one, Nat.zero_le, Nat.not_lt_zero, bind_sm, bind_sm2, e4, show d + 1 ≤ 16 by omega]
    show f_X0_begin_B (f_X0_begin (n + 1)) m1 m8 (n32 p) (n32 21) (n32 d) = _
    unfold f_X0_begin_B
    simp (maxSteps := 400000) (disch := omega) only [n32_lit, n32_add, n32_mul, n32_lt, n32_le, n32_eq, n32_nat, n32_inb, gd_dec, gdE, ↓nmE, ↓jnE, ↓bsE, Nat.reduceAdd, Nat.reduceMul, Nat.reduceSub, Nat.reduceLT, Nat.reduceLeDiff, Nat.reduceEqDiff, ↓reduceIte, decide_true, decide_false, and_true, true_and, and_false, false_and, or_false, false_or, or_true, true_or, not_true_eq_false, not_false_eq_true, eq_self, Nat.zero_add, Nat.add_zero, Nat.mul_zero, Nat.mul_one, Nat.zero_le, Nat.not_lt_zero, bind_sm, bind_sm2, e2, show d ≤ 16 by omega, e5, show p < 7 by omega, a2]
  unfold f_X8_markOf
  by_cases q : v (72 + 4 * p) < 4
  · rcases (show v (72 + 4 * p) = 1 ∨ v (72 + 4 * p) = 2 ∨ v (72 + 4 * p) = 3 by omega) with z | z | z
    · obtain ⟨w1, w2, m82, e1, e2, e3, e4, h2⟩ := b21 h (n + 2) d (by omega)
      rw [z] at e0 ⊢
      refine ⟨_, m82, w2, e4, ?_, h2⟩
      simp (maxSteps := 400000) (disch := omega) only [n32_lit, n32_add, n32_mul, n32_lt, n32_le, n32_eq, n32_nat, n32_inb, gd_dec, gdE, ↓nmE, ↓jnE, ↓bsE, Nat.reduceAdd, Nat.reduceMul, Nat.reduceSub, Nat.reduceLT, Nat.reduceLeDiff, Nat.reduceEqDiff, ↓reduceIte, decide_true, decide_false, and_true, true_and, and_false, false_and, or_false, false_or, or_true, true_or, not_true_eq_false, not_false_eq_true, eq_self, Nat.zero_add, Nat.add_zero, Nat.mul_zero, Nat.mul_one, Nat.zero_le, Nat.not_lt_zero, bind_sm, bind_sm2, e0, e1, e2, e3]
    · obtain ⟨w1, m81, f1, f2, h1⟩ := t_leave h (n32 22)
      obtain ⟨w2, w3, m82, e1, e2, e3, e4, h2⟩ := b21 h1 (n + 1) (d + 1) (by omega)
      rw [z] at e0 ⊢
      refine ⟨(n32 p + n32 10 * n32 (v (72 + 4 * p + 1))) - n32 1000, m82, w3, ?_, ?_, h2⟩
      · show f_X0_begin_B (f_X0_begin (n + 3)) m1 m8 (n32 p) (n32 22) (n32 d) = _
        unfold f_X0_begin_B
        simp (maxSteps := 400000) (disch := omega) only [n32_lit, n32_add, n32_mul, n32_lt, n32_le, n32_eq, n32_nat, n32_inb, gd_dec, gdE, ↓nmE, ↓jnE, ↓bsE, Nat.reduceAdd, Nat.reduceMul, Nat.reduceSub, Nat.reduceLT, Nat.reduceLeDiff, Nat.reduceEqDiff, ↓reduceIte, decide_true, decide_false, and_true, true_and, and_false, false_and, or_false, false_or, or_true, true_or, not_true_eq_false, not_false_eq_true, eq_self, Nat.zero_add, Nat.add_zero, Nat.mul_zero, Nat.mul_one, Nat.zero_le, Nat.not_lt_zero, bind_sm, bind_sm2, f2, show d ≤ 16 by omega, e4]
      · simp (maxSteps := 400000) (disch := omega) only [n32_lit, n32_add, n32_mul, n32_lt, n32_le, n32_eq, n32_nat, n32_inb, gd_dec, gdE, ↓nmE, ↓jnE, ↓bsE, Nat.reduceAdd, Nat.reduceMul, Nat.reduceSub, Nat.reduceLT, Nat.reduceLeDiff, Nat.reduceEqDiff, ↓reduceIte, decide_true, decide_false, and_true, true_and, and_false, false_and, or_false, false_or, or_true, true_or, not_true_eq_false, not_false_eq_true, eq_self, Nat.zero_add, Nat.add_zero, Nat.mul_zero, Nat.mul_one, Nat.zero_le, Nat.not_lt_zero, bind_sm, bind_sm2, e0, f1, e1, e2, e3]
    · obtain ⟨w1, m81, f1, f2, h1⟩ := t_leave h (n32 24)
      obtain ⟨w2, w3, m82, e1, e2, e3, e4, h2⟩ := b21 h1 (n + 1) (d + 1) (by omega)
      rw [z] at e0 ⊢
      refine ⟨n32 2 * (n32 p + n32 10 * n32 (v (72 + 4 * p + 1))), m82, w3, ?_, ?_, h2⟩
      · show f_X0_begin_B (f_X0_begin (n + 3)) m1 m8 (n32 p) (n32 24) (n32 d) = _
        unfold f_X0_begin_B
        simp (maxSteps := 400000) (disch := omega) only [n32_lit, n32_add, n32_mul, n32_lt, n32_le, n32_eq, n32_nat, n32_inb, gd_dec, gdE, ↓nmE, ↓jnE, ↓bsE, Nat.reduceAdd, Nat.reduceMul, Nat.reduceSub, Nat.reduceLT, Nat.reduceLeDiff, Nat.reduceEqDiff, ↓reduceIte, decide_true, decide_false, and_true, true_and, and_false, false_and, or_false, false_or, or_true, true_or, not_true_eq_false, not_false_eq_true, eq_self, Nat.zero_add, Nat.add_zero, Nat.mul_zero, Nat.mul_one, Nat.zero_le, Nat.not_lt_zero, bind_sm, bind_sm2, f2, show d ≤ 16 by omega, e4]
      · simp (maxSteps := 400000) (disch := omega) only [n32_lit, n32_add, n32_mul, n32_lt, n32_le, n32_eq, n32_nat, n32_inb, gd_dec, gdE, ↓nmE, ↓jnE, ↓bsE, Nat.reduceAdd, Nat.reduceMul, Nat.reduceSub, Nat.reduceLT, Nat.reduceLeDiff, Nat.reduceEqDiff, ↓reduceIte, decide_true, decide_false, and_true, true_and, and_false, false_and, or_false, false_or, or_true, true_or, not_true_eq_false, not_false_eq_true, eq_self, Nat.zero_add, Nat.add_zero, Nat.mul_zero, Nat.mul_one, Nat.zero_le, Nat.not_lt_zero, bind_sm, bind_sm2, e0, f1, e1, e2, e3]
  · obtain ⟨w1, m81, f1, f2, h1⟩ := t_leave h (n32 23)
    obtain ⟨w2, m82, f3, f4, h2⟩ := t_leave h1 (n32 20)
    obtain ⟨a, m83, w3, f5, f6, h3⟩ := a_sick hs hc h7 hp ⟨by omega, hk.2⟩ h2 n (d + 1) (by omega)
    have e5 : f_X0_begin (n + 3) m1 m81 (n32 p) (n32 20) (n32 (d + 1)) = some (n32 p, m82) := by
      show f_X0_begin_B (f_X0_begin (n + 2)) m1 m81 (n32 p) (n32 20) (n32 (d + 1)) = _
      unfold f_X0_begin_B
      simp (maxSteps := 400000) (disch := omega) only [n32_lit, n32_add, n32_mul, n32_lt, n32_le, n32_eq, n32_nat, n32_inb, gd_dec, gdE, ↓nmE, ↓jnE, ↓bsE, Nat.reduceAdd, Nat.reduceMul, Nat.reduceSub, Nat.reduceLT, Nat.reduceLeDiff, Nat.reduceEqDiff, ↓reduceIte, decide_true, decide_false, and_true, true_and, and_false, false_and, or_false, false_or, or_true, true_or, not_true_eq_false, not_false_eq_true, eq_self, Nat.zero_add, Nat.add_zero, Nat.mul_zero, Nat.mul_one, Nat.zero_le, Nat.not_lt_zero, bind_sm, bind_sm2, f4, show d + 1 ≤ 16 by omega]
    have e6 := t_poseS (fs := f_X0_begin (n + 3)) (m1 := m1) (m8 := m82) (p := p) (by omega) hk a1 (n32 (d + 1))
    rw [f5] at e6
    refine ⟨n32 p - a, m83, w3, ?_, ?_, h3⟩
    · rw [show mkB (v (72 + 4 * p)) = 23 by unfold mkB; rw [if_neg (by omega), if_neg (by omega), if_neg (by omega)]]
      show f_X0_begin_B (f_X0_begin (n + 3)) m1 m8 (n32 p) (n32 23) (n32 d) = _
      unfold f_X0_begin_B
      simp (maxSteps := 400000) (disch := omega) only [n32_lit, n32_add, n32_mul, n32_lt, n32_le, n32_eq, n32_nat, n32_inb, gd_dec, gdE, ↓nmE, ↓jnE, ↓bsE, Nat.reduceAdd, Nat.reduceMul, Nat.reduceSub, Nat.reduceLT, Nat.reduceLeDiff, Nat.reduceEqDiff, ↓reduceIte, decide_true, decide_false, and_true, true_and, and_false, false_and, or_false, false_or, or_true, true_or, not_true_eq_false, not_false_eq_true, eq_self, Nat.zero_add, Nat.add_zero, Nat.mul_zero, Nat.mul_one, Nat.zero_le, Nat.not_lt_zero, bind_sm, bind_sm2, f2, show d ≤ 16 by omega, e5, e6]
    · simp (maxSteps := 400000) (disch := omega) only [n32_lit, n32_add, n32_mul, n32_lt, n32_le, n32_eq, n32_nat, n32_inb, gd_dec, gdE, ↓nmE, ↓jnE, ↓bsE, Nat.reduceAdd, Nat.reduceMul, Nat.reduceSub, Nat.reduceLT, Nat.reduceLeDiff, Nat.reduceEqDiff, ↓reduceIte, decide_true, decide_false, and_true, true_and, and_false, false_and, or_false, false_or, or_true, true_or, not_true_eq_false, not_false_eq_true, eq_self, Nat.zero_add, Nat.add_zero, Nat.mul_zero, Nat.mul_one, Nat.zero_le, Nat.not_lt_zero, bind_sm, bind_sm2, e0, q, f1, f3, f6]
theorem a_size (hs : Sh (w0 6) v) (hc : Cl m1 v) (h7 : v 4 ≤ 7) {p : Nat} (hp : p < v 4) (hk : 1 ≤ v (72 + 4 * p) ∧ v (72 + 4 * p) ≤ 5) {w m8 : Mem} (h : TrS w0 w m8) (n d : Nat) (hd : d ≤ 4) : Out (f_X0_begin (n + 6) m1 m8 (n32 p) (n32 (szB (v (72 + 4 * p)))) (n32 d)) (f_X8_sizeOf w (n32 p)) w0 := by
  have e0 := t_of0 (h.sh hs) (p := p) (by omega)
  obtain ⟨a1, a2, a3, a4⟩ := hc.1.2.2.2.2.2.2.2.1 p hp
  unfold f_X8_sizeOf
  by_cases q : v (72 + 4 * p) < 4
  · have b11 : ∀ {w m8 : Mem}, TrS w0 w m8 → ∀ n d, d ≤ 5 → ∃ w1 w2 w3 m83 a, f_X8_began w (n32 11) = some w1 ∧ f_X8_plainSize w1 (n32 p) = some (n32 (v (72 + 4 * p + 2)), w2) ∧ f_X8_markOf w2 (n32 p) = some (a, w3) ∧ f_X0_begin (n + 5) m1 m8 (n32 p) (n32 11) (n32 d) = some (n32 (v (72 + 4 * p + 2)) + a, m83) ∧ TrS w0 w3 m83 := by
      intro w m8 h n d hd
      obtain ⟨w1, m81, e1, e2, h1⟩ := t_leave h (n32 11)
      obtain ⟨m82, w2, e3, e4, h2⟩ := a_plain hs hc h7 hp h1 (n + 3) (d + 1) (by omega)
      obtain ⟨a, m83, w3, e5, e6, h3⟩ := a_mark hs hc h7 hp hk h2 n (d + 1) (by omega)
      have e7 := t_poseM (fs := f_X0_begin (n + 4)) (m1 := m1) (m8 := m82) (p := p) (by omega) hk a1 (n32 (d + 1))
      rw [e5] at e7
      refine ⟨w1, w2, w3, m83, a, e1, e4, e6, ?_, h3⟩
      show f_X0_begin_B (f_X0_begin (n + 4)) m1 m8 (n32 p) (n32 11) (n32 d) = _
      unfold f_X0_begin_B
      simp (maxSteps := 400000) (disch := omega) only [n32_lit, n32_add, n32_mul, n32_lt, n32_le, n32_eq, n32_nat, n32_inb, gd_dec, gdE, ↓nmE, ↓jnE, ↓bsE, Nat.reduceAdd, Nat.reduceMul, Nat.reduceSub, Nat.reduceLT, Nat.reduceLeDiff, Nat.reduceEqDiff, ↓reduceIte, decide_true, decide_false, and_true, true_and, and_false, false_and, or_false, false_or, or_true, true_or, not_true_eq_false, not_false_eq_true, eq_self, Nat.zero_add, Nat.add_zero, Nat.mul_zero, Nat.mul_one, Nat.zero_le, Nat.not_lt_zero, bind_sm, bind_sm2, e2, show d ≤ 16 by omega, e3, e7]
    by_cases z : v (72 + 4 * p) = 3
    · obtain ⟨w1, m81, f1, f2, h1⟩ := t_leave h (n32 12)
      obtain ⟨w2, w3, w4, m83, a, e1, e2, e3, e4, h2⟩ := b11 h1 n (d + 1) (by omega)
      rw [z] at e0 ⊢
      refine ⟨-(n32 (v (72 + 4 * p + 2)) + a), m83, w4, ?_, ?_, h2⟩
      · show f_X0_begin_B (f_X0_begin (n + 5)) m1 m8 (n32 p) (n32 12) (n32 d) = _
        unfold f_X0_begin_B
        simp (maxSteps := 400000) (disch := omega) only [n32_lit, n32_add, n32_mul, n32_lt, n32_le, n32_eq, n32_nat, n32_inb, gd_dec, gdE, ↓nmE, ↓jnE, ↓bsE, Nat.reduceAdd, Nat.reduceMul, Nat.reduceSub, Nat.reduceLT, Nat.reduceLeDiff, Nat.reduceEqDiff, ↓reduceIte, decide_true, decide_false, and_true, true_and, and_false, false_and, or_false, false_or, or_true, true_or, not_true_eq_false, not_false_eq_true, eq_self, Nat.zero_add, Nat.add_zero, Nat.mul_zero, Nat.mul_one, Nat.zero_le, Nat.not_lt_zero, bind_sm, bind_sm2, f2, show d ≤ 16 by omega, e4]
      · simp (maxSteps := 400000) (disch := omega) only [n32_lit, n32_add, n32_mul, n32_lt, n32_le, n32_eq, n32_nat, n32_inb, gd_dec, gdE, ↓nmE, ↓jnE, ↓bsE, Nat.reduceAdd, Nat.reduceMul, Nat.reduceSub, Nat.reduceLT, Nat.reduceLeDiff, Nat.reduceEqDiff, ↓reduceIte, decide_true, decide_false, and_true, true_and, and_false, false_and, or_false, false_or, or_true, true_or, not_true_eq_false, not_false_eq_true, eq_self, Nat.zero_add, Nat.add_zero, Nat.mul_zero, Nat.mul_one, Nat.zero_le, Nat.not_lt_zero, bind_sm, bind_sm2, e0, f1, e1, e2, e3]
    · obtain ⟨w2, w3, w4, m83, a, e1, e2, e3, e4, h2⟩ := b11 h (n + 1) d (by omega)
      refine ⟨n32 (v (72 + 4 * p + 2)) + a, m83, w4, ?_, ?_, h2⟩
      · rw [show szB (v (72 + 4 * p)) = 11 by unfold szB; rw [if_pos (by omega)]]
        exact e4
      · simp (maxSteps := 400000) (disch := omega) only [n32_lit, n32_add, n32_mul, n32_lt, n32_le, n32_eq, n32_nat, n32_inb, gd_dec, gdE, ↓nmE, ↓jnE, ↓bsE, Nat.reduceAdd, Nat.reduceMul, Nat.reduceSub, Nat.reduceLT, Nat.reduceLeDiff, Nat.reduceEqDiff, ↓reduceIte, decide_true, decide_false, and_true, true_and, and_false, false_and, or_false, false_or, or_true, true_or, not_true_eq_false, not_false_eq_true, eq_self, Nat.zero_add, Nat.add_zero, Nat.mul_zero, Nat.mul_one, Nat.zero_le, Nat.not_lt_zero, bind_sm, bind_sm2, e0, q, z, e1, e2, e3]
  · obtain ⟨a, m83, w3, f5, f6, h3⟩ := a_sick hs hc h7 hp ⟨by omega, hk.2⟩ h (n + 3) d (by omega)
    refine ⟨a, m83, w3, f5, ?_, h3⟩
    simp (maxSteps := 400000) (disch := omega) only [n32_lit, n32_add, n32_mul, n32_lt, n32_le, n32_eq, n32_nat, n32_inb, gd_dec, gdE, ↓nmE, ↓jnE, ↓bsE, Nat.reduceAdd, Nat.reduceMul, Nat.reduceSub, Nat.reduceLT, Nat.reduceLeDiff, Nat.reduceEqDiff, ↓reduceIte, decide_true, decide_false, and_true, true_and, and_false, false_and, or_false, false_or, or_true, true_or, not_true_eq_false, not_false_eq_true, eq_self, Nat.zero_add, Nat.add_zero, Nat.mul_zero, Nat.mul_one, Nat.zero_le, Nat.not_lt_zero, bind_sm, bind_sm2, e0, q, f6]
end EV
theorem s_ask {m0 m1 m8 : Mem} {told : Int32} {v : Nat → Nat} (hE : REv ((up m0 0 0 0) 6) told m1 v) (hT : RTr ((up m0 0 0 0) 0 36) ((up m0 0 0 0) 36) m8) (x y : Int32) : Out (f_X7_ask m1 m8 x y) (f_X8_ask m0 x y) (up m0 0 0 0) := by
  unfold f_X7_ask f_X8_ask
  rw [nm_eq]
  generalize hw : up m0 0 0 0 = w at *
  have hE' := hE
  obtain ⟨h1, hv, hc, -, -⟩ := hE'
  have none : Out (some (-n32 1000001, m8)) (some (-n32 1000001, w)) w := ⟨_, _, _, rfl, rfl, Fr.refl, hT⟩
  rcases b_person hE x with ⟨p, hp, rfl, e1, e2⟩ | ⟨e1, e2⟩
  · have h7 : v 4 ≤ 7 := hv.1.1
    obtain ⟨a1, a2, a3, a4⟩ := hc.1.2.2.2.2.2.2.2.1 p hp
    have hk := hv.1.2.2.2.2.2.2.1 p hp
    have hk' : 1 ≤ v (72 + 4 * p) ∧ v (72 + 4 * p) ≤ 5 := ⟨hk.1, hk.2.1⟩
    have h0 : TrS w (up w 0 36 (n32 0)) (up m8 0 1 (n32 0)) := by
      refine ⟨Fr.refl.up 0 36 _ (Or.inr ⟨rfl, rfl⟩), 0, by omega, ?_, ?_, fun i hi => by omega⟩
      · simp (disch := omega) only [up_at, up_ms, up_mi, upA_at, upA_ms]
      · simp (disch := omega) only [up_at, up_ms, up_mi, upA_at, upA_ms]
    rw [e1, e2]
    rcases tri y (k := 1) (by decide) with ⟨n, hn, rfl⟩ | q
    · rw [in_yes (b := 1) (k := 1) rfl hn (by decide)]
      unfold f_X0_forget
      rcases (show n = 0 ∨ n = 1 by omega) with rfl | rfl
      · have e3 := t_poseS (fs := f_X0_begin 28) (m1 := m1) (m8 := up m8 0 1 (n32 0)) (p := p) (by omega) hk' a1 (n32 0)
        obtain ⟨a, m8', w', k1, k2, k3⟩ := a_size h1 hc h7 hp hk' h0 22 0 (by omega)
        rw [k1] at e3
        refine ⟨a, m8', w', ?_, ?_, k3⟩
        · simp (maxSteps := 400000) (disch := omega) only [n32_lit, n32_add, n32_mul, n32_lt, n32_le, n32_eq, n32_nat, n32_inb, gd_dec, gdE, ↓nmE, ↓jnE, ↓bsE, Nat.reduceAdd, Nat.reduceMul, Nat.reduceSub, Nat.reduceLT, Nat.reduceLeDiff, Nat.reduceEqDiff, ↓reduceIte, decide_true, decide_false, and_true, true_and, and_false, false_and, or_false, false_or, or_true, true_or, not_true_eq_false, not_false_eq_true, eq_self, Nat.zero_add, Nat.add_zero, Nat.mul_zero, Nat.mul_one, Nat.zero_le, Nat.not_lt_zero, bind_sm, bind_sm2, e3]
        · simp (maxSteps := 400000) (disch := omega) only [n32_lit, n32_add, n32_mul, n32_lt, n32_le, n32_eq, n32_nat, n32_inb, gd_dec, gdE, ↓nmE, ↓jnE, ↓bsE, Nat.reduceAdd, Nat.reduceMul, Nat.reduceSub, Nat.reduceLT, Nat.reduceLeDiff, Nat.reduceEqDiff, ↓reduceIte, decide_true, decide_false, and_true, true_and, and_false, false_and, or_false, false_or, or_true, true_or, not_true_eq_false, not_false_eq_true, eq_self, Nat.zero_add, Nat.add_zero, Nat.mul_zero, Nat.mul_one, Nat.zero_le, Nat.not_lt_zero, bind_sm, bind_sm2, k2]
      · have e3 := t_poseM (fs := f_X0_begin 28) (m1 := m1) (m8 := up m8 0 1 (n32 0)) (p := p) (by omega) hk' a1 (n32 0)
        obtain ⟨a, m8', w', k1, k2, k3⟩ := a_mark h1 hc h7 hp hk' h0 24 0 (by omega)
        rw [k1] at e3
        refine ⟨a, m8', w', ?_, ?_, k3⟩
        · simp (maxSteps := 400000) (disch := omega) only [n32_lit, n32_add, n32_mul, n32_lt, n32_le, n32_eq, n32_nat, n32_inb, gd_dec, gdE, ↓nmE, ↓jnE, ↓bsE, Nat.reduceAdd, Nat.reduceMul, Nat.reduceSub, Nat.reduceLT, Nat.reduceLeDiff, Nat.reduceEqDiff, ↓reduceIte, decide_true, decide_false, and_true, true_and, and_false, false_and, or_false, false_or, or_true, true_or, not_true_eq_false, not_false_eq_true, eq_self, Nat.zero_add, Nat.add_zero, Nat.mul_zero, Nat.mul_one, Nat.zero_le, Nat.not_lt_zero, bind_sm, bind_sm2, e3]
        · simp (maxSteps := 400000) (disch := omega) only [n32_lit, n32_add, n32_mul, n32_lt, n32_le, n32_eq, n32_nat, n32_inb, gd_dec, gdE, ↓nmE, ↓jnE, ↓bsE, Nat.reduceAdd, Nat.reduceMul, Nat.reduceSub, Nat.reduceLT, Nat.reduceLeDiff, Nat.reduceEqDiff, ↓reduceIte, decide_true, decide_false, and_true, true_and, and_false, false_and, or_false, false_or, or_true, true_or, not_true_eq_false, not_false_eq_true, eq_self, Nat.zero_add, Nat.add_zero, Nat.mul_zero, Nat.mul_one, Nat.zero_le, Nat.not_lt_zero, bind_sm, bind_sm2, k2]
    · rw [in_no (b := 1) (k := 1) rfl (by decide) q]
      by_cases z0 : y < n32 0
      · simp (maxSteps := 400000) (disch := omega) only [n32_lit, n32_add, n32_mul, n32_lt, n32_le, n32_eq, n32_nat, n32_inb, gd_dec, gdE, ↓nmE, ↓jnE, ↓bsE, Nat.reduceAdd, Nat.reduceMul, Nat.reduceSub, Nat.reduceLT, Nat.reduceLeDiff, Nat.reduceEqDiff, ↓reduceIte, decide_true, decide_false, and_true, true_and, and_false, false_and, or_false, false_or, or_true, true_or, not_true_eq_false, not_false_eq_true, eq_self, Nat.zero_add, Nat.add_zero, Nat.mul_zero, Nat.mul_one, Nat.zero_le, Nat.not_lt_zero, bind_sm, bind_sm2, z0]
        exact none
      · have z2 : (y ≤ n32 1) = False := eq_false (by rw [i32_nle]; exact q.resolve_left z0)
        simp (maxSteps := 400000) (disch := omega) only [n32_lit, n32_add, n32_mul, n32_lt, n32_le, n32_eq, n32_nat, n32_inb, gd_dec, gdE, ↓nmE, ↓jnE, ↓bsE, Nat.reduceAdd, Nat.reduceMul, Nat.reduceSub, Nat.reduceLT, Nat.reduceLeDiff, Nat.reduceEqDiff, ↓reduceIte, decide_true, decide_false, and_true, true_and, and_false, false_and, or_false, false_or, or_true, true_or, not_true_eq_false, not_false_eq_true, eq_self, Nat.zero_add, Nat.add_zero, Nat.mul_zero, Nat.mul_one, Nat.zero_le, Nat.not_lt_zero, bind_sm, bind_sm2, z0, z2]
        exact none
  · rw [e1, e2]
    simp (maxSteps := 400000) (disch := omega) only [n32_lit, n32_add, n32_mul, n32_lt, n32_le, n32_eq, n32_nat, n32_inb, gd_dec, gdE, ↓nmE, ↓jnE, ↓bsE, Nat.reduceAdd, Nat.reduceMul, Nat.reduceSub, Nat.reduceLT, Nat.reduceLeDiff, Nat.reduceEqDiff, ↓reduceIte, decide_true, decide_false, and_true, true_and, and_false, false_and, or_false, false_or, or_true, true_or, not_true_eq_false, not_false_eq_true, eq_self, Nat.zero_add, Nat.add_zero, Nat.mul_zero, Nat.mul_one, Nat.zero_le, Nat.not_lt_zero, bind_sm, bind_sm2]
    exact none
