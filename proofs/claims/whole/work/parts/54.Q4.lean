/-! as -/
section EV
variable {m0 m1 : Mem} {told : Int32} {v : Nat → Nat}
def PSt (s i : Nat) : Prop := s = 0 ∧ i = 1
theorem s_as {m11 : Mem} (hE : REv ((up m0 0 0 0) 6) told m1 v) (hS : RSt ((up m0 0 0 0) 0 1) m11) (x y : Int32) : ∃ (a : Int32) (m11' w' : Mem), f_X7_as m1 m11 x y = some (a, m11') ∧ f_X8_as m0 x y = some (a, w') ∧ Fr PSt (up m0 0 0 0) w' ∧ RSt (w' 0 1) m11' := by
  unfold f_X7_as f_X8_as
  rw [nm_eq]
  generalize hw : up m0 0 0 0 = w at *
  have hE' := hE
  obtain ⟨h1, hv, hc, -, -⟩ := hE'
  rcases b_person hE x with ⟨p, hp, rfl, e1, e2⟩ | ⟨e1, e2⟩
  · have h7 : v 4 ≤ 7 := hv.1.1
    obtain ⟨a1, a2, a3, a4⟩ := hc.1.2.2.2.2.2.2.2.1 p hp
    have hk := hv.1.2.2.2.2.2.2.1 p hp
    rw [e1, e2]
    rcases tri y (k := 5) (by decide) with ⟨n, hn, rfl⟩ | q
    · rw [in_yes (b := 5) (k := 5) rfl hn (by decide)]
      have h1' : Sh ((up w 0 1 (n32 0)) 6) v := by rw [up_row _ _ _ _ _ (by decide)]; exact h1
      have e3 := t_of (k := 0) h1' (p := p) (by omega) (by omega)
      have e4 := t_isOf (k := v (72 + 4 * p)) (w := n) ⟨hk.1, hk.2.1⟩ hn
      have e5 := t_isOfKind (k := v (72 + 4 * p)) (w := n) ⟨hk.1, hk.2.1⟩ hn
      unfold f_X7_found f_X7_fine f_X8_finding
      simp (maxSteps := 400000) (disch := omega) only [n32_lit, n32_add, n32_mul, n32_lt, n32_le, n32_eq, n32_nat, n32_inb, gd_dec, gdE, ↓nmE, ↓jnE, ↓bsE, Nat.reduceAdd, Nat.reduceMul, Nat.reduceSub, Nat.reduceLT, Nat.reduceLeDiff, Nat.reduceEqDiff, ↓reduceIte, decide_true, decide_false, and_true, true_and, and_false, false_and, or_false, false_or, or_true, true_or, not_true_eq_false, not_false_eq_true, eq_self, Nat.zero_add, Nat.add_zero, Nat.mul_zero, Nat.mul_one, Nat.zero_le, Nat.not_lt_zero, bind_sm, bind_sm2, hn, show p < 7 by omega, e3, a1, e4, e5]
      rcases isofk_01 (v (72 + 4 * p)) n with z | z <;> rw [z]
      · simp (maxSteps := 400000) (disch := omega) only [n32_lit, n32_add, n32_mul, n32_lt, n32_le, n32_eq, n32_nat, n32_inb, gd_dec, gdE, ↓nmE, ↓jnE, ↓bsE, Nat.reduceAdd, Nat.reduceMul, Nat.reduceSub, Nat.reduceLT, Nat.reduceLeDiff, Nat.reduceEqDiff, ↓reduceIte, decide_true, decide_false, and_true, true_and, and_false, false_and, or_false, false_or, or_true, true_or, not_true_eq_false, not_false_eq_true, eq_self, Nat.zero_add, Nat.add_zero, Nat.mul_zero, Nat.mul_one, Nat.zero_le, Nat.not_lt_zero, bind_sm, bind_sm2, up_up]
        refine ⟨_, _, _, rfl, rfl, Fr.refl.up 0 1 _ ⟨rfl, rfl⟩, ?_⟩
        simp (disch := omega) only [up_at, up_ms, up_mi, upA_at, upA_ms]
        exact hS.set _
      · simp (maxSteps := 400000) (disch := omega) only [n32_lit, n32_add, n32_mul, n32_lt, n32_le, n32_eq, n32_nat, n32_inb, gd_dec, gdE, ↓nmE, ↓jnE, ↓bsE, Nat.reduceAdd, Nat.reduceMul, Nat.reduceSub, Nat.reduceLT, Nat.reduceLeDiff, Nat.reduceEqDiff, ↓reduceIte, decide_true, decide_false, and_true, true_and, and_false, false_and, or_false, false_or, or_true, true_or, not_true_eq_false, not_false_eq_true, eq_self, Nat.zero_add, Nat.add_zero, Nat.mul_zero, Nat.mul_one, Nat.zero_le, Nat.not_lt_zero, bind_sm, bind_sm2]
        refine ⟨_, _, _, rfl, rfl, Fr.refl.up 0 1 _ ⟨rfl, rfl⟩, ?_⟩
        simp (disch := omega) only [up_at, up_ms, up_mi, upA_at, upA_ms]
        exact hS.set _
    · rw [in_no (b := 5) (k := 5) rfl (by decide) q]
      by_cases z0 : y < n32 0
      · simp (maxSteps := 400000) (disch := omega) only [n32_lit, n32_add, n32_mul, n32_lt, n32_le, n32_eq, n32_nat, n32_inb, gd_dec, gdE, ↓nmE, ↓jnE, ↓bsE, Nat.reduceAdd, Nat.reduceMul, Nat.reduceSub, Nat.reduceLT, Nat.reduceLeDiff, Nat.reduceEqDiff, ↓reduceIte, decide_true, decide_false, and_true, true_and, and_false, false_and, or_false, false_or, or_true, true_or, not_true_eq_false, not_false_eq_true, eq_self, Nat.zero_add, Nat.add_zero, Nat.mul_zero, Nat.mul_one, Nat.zero_le, Nat.not_lt_zero, bind_sm, bind_sm2, z0]
        exact ⟨_, _, _, rfl, rfl, Fr.refl, hS⟩
      · have z2 : (y ≤ n32 5) = False := eq_false (by rw [i32_nle]; exact q.resolve_left z0)
        simp (maxSteps := 400000) (disch := omega) only [n32_lit, n32_add, n32_mul, n32_lt, n32_le, n32_eq, n32_nat, n32_inb, gd_dec, gdE, ↓nmE, ↓jnE, ↓bsE, Nat.reduceAdd, Nat.reduceMul, Nat.reduceSub, Nat.reduceLT, Nat.reduceLeDiff, Nat.reduceEqDiff, ↓reduceIte, decide_true, decide_false, and_true, true_and, and_false, false_and, or_false, false_or, or_true, true_or, not_true_eq_false, not_false_eq_true, eq_self, Nat.zero_add, Nat.add_zero, Nat.mul_zero, Nat.mul_one, Nat.zero_le, Nat.not_lt_zero, bind_sm, bind_sm2, z0, z2]
        exact ⟨_, _, _, rfl, rfl, Fr.refl, hS⟩
  · rw [e1, e2]
    simp (maxSteps := 400000) (disch := omega) only [n32_lit, n32_add, n32_mul, n32_lt, n32_le, n32_eq, n32_nat, n32_inb, gd_dec, gdE, ↓nmE, ↓jnE, ↓bsE, Nat.reduceAdd, Nat.reduceMul, Nat.reduceSub, Nat.reduceLT, Nat.reduceLeDiff, Nat.reduceEqDiff, ↓reduceIte, decide_true, decide_false, and_true, true_and, and_false, false_and, or_false, false_or, or_true, true_or, not_true_eq_false, not_false_eq_true, eq_self, Nat.zero_add, Nat.add_zero, Nat.mul_zero, Nat.mul_one, Nat.zero_le, Nat.not_lt_zero, bind_sm, bind_sm2]
    exact ⟨_, _, _, rfl, rfl, Fr.refl, hS⟩
/-! ask -/
def PTr (s i : Nat) : Prop := s = 36 ∨ (s = 0 ∧ i = 36)
/-- the trace after some bodies, on both sides -/
def TrS (w0 w : Mem) (m8 : Mem) : Prop := Fr PTr w0 w ∧ RTr (w 0 36) (w 36) m8
theorem t_leave {w0 w m8 : Mem} (h : TrS w0 w m8) (x : Int32) : ∃ w' m8', f_X8_began w x = some w' ∧ f_X0_leave m8 x = some m8' ∧ TrS w0 w' m8' := by
  obtain ⟨hf, n, hn, h1, h2, h3⟩ := h
  unfold f_X8_began f_X0_leave
  rw [h1, h2]
  by_cases q : 16 ≤ n
  · simp (maxSteps := 400000) (disch := omega) only [n32_lit, n32_add, n32_mul, n32_lt, n32_le, n32_eq, n32_nat, n32_inb, gd_dec, gdE, ↓nmE, ↓jnE, ↓bsE, Nat.reduceAdd, Nat.reduceMul, Nat.reduceSub, Nat.reduceLT, Nat.reduceLeDiff, Nat.reduceEqDiff, ↓reduceIte, decide_true, decide_false, and_true, true_and, and_false, false_and, or_false, false_or, or_true, true_or, not_true_eq_false, not_false_eq_true, eq_self, Nat.zero_add, Nat.add_zero, Nat.mul_zero, Nat.mul_one, Nat.zero_le, Nat.not_lt_zero, bind_sm, bind_sm2, q]
    exact ⟨_, _, rfl, rfl, hf, n, hn, h1, h2, h3⟩
  · simp (disch := omega) only [n32_lit, n32_add, n32_mul, n32_lt, n32_le, n32_eq, n32_nat, n32_inb, gd_dec, gd_one, nm_eq, jn_eq, Option.bind_some, Nat.reduceAdd, Nat.reduceMul, Nat.reduceSub, Nat.reduceLT, Nat.reduceLeDiff, Nat.reduceEqDiff, ↓reduceIte, decide_true, decide_false, and_true, true_and, and_false, false_and, or_false, false_or, or_true, true_or, not_true_eq_false, not_false_eq_true, eq_self, Nat.zero_add, Nat.add_zero, Nat.mul_zero, Nat.mul_one, Nat.zero_le, Nat.not_lt_zero, bind_sm, bind_sm2, up_at, up_ms, up_mi, upA_at, upA_ms, q, show n < 16 by omega, h1, h2]
    refine ⟨_, _, rfl, rfl, (hf.up 36 _ _ (Or.inl rfl)).up 0 36 _ (Or.inr ⟨rfl, rfl⟩), n + 1, by omega, ?_, ?_, ?_⟩
    · simp (disch := omega) only [up_at, up_ms, up_mi, upA_at, upA_ms]
    · simp (disch := omega) only [up_at, up_ms, up_mi, upA_at, upA_ms]
    · intro i hi
      by_cases z : i = n
      · subst z
        simp (disch := omega) only [up_at, up_ms, up_mi, upA_at, upA_ms]
      · simp (disch := omega) only [up_at, up_ms, up_mi, upA_at, upA_ms]
        exact h3 i (by omega)
theorem TrS.sh {w0 w m8 : Mem} (h : TrS w0 w m8) (hs : Sh (w0 6) v) : Sh (w 6) v := by
  rw [h.1.row 6 (fun i => by unfold PTr; omega)]; exact hs
end EV
