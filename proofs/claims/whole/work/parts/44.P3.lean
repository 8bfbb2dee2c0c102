/-! kinds -/
def isofk (k w : Nat) : Nat := if w = 0 ∨ k = w ∨ (w = 1 ∧ k < 4) ∨ (w = 4 ∧ k = 5) then 1 else 0
theorem t_isOf {k w : Nat} (hk : 1 ≤ k ∧ k ≤ 5) (hw : w ≤ 5) : f_X8_isOf (n32 k) (n32 w) = some (n32 (isofk k w)) := by
  have : ∀ k, k < 6 → ∀ w, w < 6 → 1 ≤ k → f_X8_isOf (n32 k) (n32 w) = some (n32 (isofk k w)) := by decide +kernel
  exact this k (by omega) w (by omega) hk.1
theorem t_isOfKind {k w : Nat} (hk : 1 ≤ k ∧ k ≤ 5) (hw : w ≤ 5) : f_X7_isOfKind (n32 k) (n32 w) = some (n32 (isofk k w)) := by
  have : ∀ k, k < 6 → ∀ w, w < 6 → 1 ≤ k → f_X7_isOfKind (n32 k) (n32 w) = some (n32 (isofk k w)) := by decide +kernel
  exact this k (by omega) w (by omega) hk.1
theorem isofk_01 (k w : Nat) : isofk k w = 0 ∨ isofk k w = 1 := by unfold isofk; by_cases h : w = 0 ∨ k = w ∨ (w = 1 ∧ k < 4) ∨ (w = 4 ∧ k = 5) <;> simp [h]
theorem t_hasBit {a i : Nat} (ha : a < 2147483648) (hi : i < 32) : f_X7_hasBit (n32 a) (n32 i) = some (n32 (a.testBit i).toNat) := by
  unfold f_X7_hasBit
  simp (disch := omega) only [n32_lit, n32_add, n32_mul, n32_lt, n32_le, n32_eq, n32_nat, n32_inb, gd_dec, gd_one, nm_eq, jn_eq, Option.bind_some, Nat.reduceAdd, Nat.reduceMul, Nat.reduceSub, Nat.reduceLT, Nat.reduceLeDiff, Nat.reduceEqDiff, ↓reduceIte, decide_true, decide_false, and_true, true_and, and_false, false_and, or_false, false_or, or_true, true_or, not_true_eq_false, not_false_eq_true, eq_self, Nat.zero_add, Nat.add_zero, Nat.mul_zero, Nat.mul_one, Nat.zero_le, Nat.not_lt_zero, bind_sm, bind_sm2, n32_bit, n32_b0]
  cases a.testBit i <;> rfl
def drk (v : Nat → Nat) (g mn : Nat) : Nat := 10 * g - v 1 * (mn / 60)
def md (v : Nat → Nat) (p g mn : Nat) : Nat := if 4 ≤ v (72 + 4 * p) then 0 else if v 0 < drk v g mn then 0 else if v (72 + 4 * p) = 2 ∧ g ≠ 0 then 0 else 1
section EV
variable {m0 m1 : Mem} {told : Int32} {v : Nat → Nat}
theorem t_drunk (h : Sh (m0 6) v) (hv : v 1 ≤ 20) {g mn : Nat} (hg : g ≤ 200) (hm : mn ≤ 600) : f_X8_drunk m0 (n32 g) (n32 mn) = some (n32 (drk v g mn)) := by
  have hq : mn / 60 ≤ 10 := by omega
  have hb : v 1 * (mn / 60) ≤ 200 := Nat.mul_le_mul hv hq
  unfold f_X8_drunk drk
  simp (disch := omega) only [n32_lit, n32_add, n32_mul, n32_lt, n32_le, n32_eq, n32_nat, n32_inb, gd_dec, gd_one, nm_eq, jn_eq, Option.bind_some, Nat.reduceAdd, Nat.reduceMul, Nat.reduceSub, Nat.reduceLT, Nat.reduceLeDiff, Nat.reduceEqDiff, ↓reduceIte, decide_true, decide_false, and_true, true_and, and_false, false_and, or_false, false_or, or_true, true_or, not_true_eq_false, not_false_eq_true, eq_self, Nat.zero_add, Nat.add_zero, Nat.mul_zero, Nat.mul_one, Nat.zero_le, Nat.not_lt_zero, bind_sm, bind_sm2, h 1 (by decide), n32_div]
  generalize v 1 * (mn / 60) = b at hb
  by_cases hh : b ≤ 10 * g
  · simp (disch := omega) only [n32_lit, n32_add, n32_mul, n32_lt, n32_le, n32_eq, n32_nat, n32_inb, gd_dec, gd_one, nm_eq, jn_eq, Option.bind_some, Nat.reduceAdd, Nat.reduceMul, Nat.reduceSub, Nat.reduceLT, Nat.reduceLeDiff, Nat.reduceEqDiff, ↓reduceIte, decide_true, decide_false, and_true, true_and, and_false, false_and, or_false, false_or, or_true, true_or, not_true_eq_false, not_false_eq_true, eq_self, Nat.zero_add, Nat.add_zero, Nat.mul_zero, Nat.mul_one, Nat.zero_le, Nat.not_lt_zero, bind_sm, bind_sm2, n32_sub hh]
  · have h3 := neg_nle (n32_subneg (a := 10 * g) (b := b) (by omega) (by omega)) (b := 0) (by decide)
    simp (disch := omega) only [n32_lit, n32_add, n32_mul, n32_lt, n32_le, n32_eq, n32_nat, n32_inb, gd_dec, gd_one, nm_eq, jn_eq, Option.bind_some, Nat.reduceAdd, Nat.reduceMul, Nat.reduceSub, Nat.reduceLT, Nat.reduceLeDiff, Nat.reduceEqDiff, ↓reduceIte, decide_true, decide_false, and_true, true_and, and_false, false_and, or_false, false_or, or_true, true_or, not_true_eq_false, not_false_eq_true, eq_self, Nat.zero_add, Nat.add_zero, Nat.mul_zero, Nat.mul_one, Nat.zero_le, Nat.not_lt_zero, bind_sm, bind_sm2, h3]
    rw [show 10 * g - b = 0 by omega]
theorem t_drunkAfter (h : Cl m1 v) (hv : v 1 ≤ 20) {g mn : Nat} (hg : g ≤ 200) (hm : mn ≤ 600) : f_X3_drunkAfter m1 (n32 g) (n32 mn) = some (n32 (drk v g mn)) := by
  have hq : mn / 60 ≤ 10 := by omega
  have hb : v 1 * (mn / 60) ≤ 200 := Nat.mul_le_mul hv hq
  unfold f_X3_drunkAfter drk
  simp (disch := omega) only [n32_lit, n32_add, n32_mul, n32_lt, n32_le, n32_eq, n32_nat, n32_inb, gd_dec, gd_one, nm_eq, jn_eq, Option.bind_some, Nat.reduceAdd, Nat.reduceMul, Nat.reduceSub, Nat.reduceLT, Nat.reduceLeDiff, Nat.reduceEqDiff, ↓reduceIte, decide_true, decide_false, and_true, true_and, and_false, false_and, or_false, false_or, or_true, true_or, not_true_eq_false, not_false_eq_true, eq_self, Nat.zero_add, Nat.add_zero, Nat.mul_zero, Nat.mul_one, Nat.zero_le, Nat.not_lt_zero, bind_sm, bind_sm2, h.1.2.1, n32_div]
  generalize v 1 * (mn / 60) = b at hb
  by_cases hh : b ≤ 10 * g
  · simp (disch := omega) only [n32_lit, n32_add, n32_mul, n32_lt, n32_le, n32_eq, n32_nat, n32_inb, gd_dec, gd_one, nm_eq, jn_eq, Option.bind_some, Nat.reduceAdd, Nat.reduceMul, Nat.reduceSub, Nat.reduceLT, Nat.reduceLeDiff, Nat.reduceEqDiff, ↓reduceIte, decide_true, decide_false, and_true, true_and, and_false, false_and, or_false, false_or, or_true, true_or, not_true_eq_false, not_false_eq_true, eq_self, Nat.zero_add, Nat.add_zero, Nat.mul_zero, Nat.mul_one, Nat.zero_le, Nat.not_lt_zero, bind_sm, bind_sm2, n32_sub hh]
    by_cases h0 : 0 < 10 * g - b
    · rw [if_pos h0]
    · rw [if_neg h0, show 10 * g - b = 0 by omega]
  · have h3 := neg_nlt (n32_subneg (a := 10 * g) (b := b) (by omega) (by omega)) (b := 0) (by decide)
    simp (disch := omega) only [n32_lit, n32_add, n32_mul, n32_lt, n32_le, n32_eq, n32_nat, n32_inb, gd_dec, gd_one, nm_eq, jn_eq, Option.bind_some, Nat.reduceAdd, Nat.reduceMul, Nat.reduceSub, Nat.reduceLT, Nat.reduceLeDiff, Nat.reduceEqDiff, ↓reduceIte, decide_true, decide_false, and_true, true_and, and_false, false_and, or_false, false_or, or_true, true_or, not_true_eq_false, not_false_eq_true, eq_self, Nat.zero_add, Nat.add_zero, Nat.mul_zero, Nat.mul_one, Nat.zero_le, Nat.not_lt_zero, bind_sm, bind_sm2, h3]
    rw [show 10 * g - b = 0 by omega]
theorem drk_le (v : Nat → Nat) (g mn : Nat) : drk v g mn ≤ 10 * g := Nat.sub_le _ _
theorem t_mayDrive (h : Sh (m0 6) v) (hv : Vd v) {p g mn : Nat} (hp : p < v 4) (hg : g ≤ 200) (hm : mn ≤ 600) : f_X8_mayDrive m0 (n32 p) (n32 g) (n32 mn) = some (n32 (md v p g mn)) := by
  obtain ⟨⟨h4, h5, h0, h1, h6, h7, hP, hC⟩, hF⟩ := hv
  have hd := drk_le v g mn
  have hk := hP p hp
  unfold f_X8_mayDrive md
  have e : f_X8_of m0 (n32 p) 0 = some (n32 (v (72 + 4 * p))) := t_of (k := 0) h (by omega) (by omega)
  rw [e]
  have hk1 := hk.1
  have hk2 := hk.2.1
  simp (disch := omega) only [n32_lit, n32_add, n32_mul, n32_lt, n32_le, n32_eq, n32_nat, n32_inb, gd_dec, gd_one, nm_eq, jn_eq, Option.bind_some, Nat.reduceAdd, Nat.reduceMul, Nat.reduceSub, Nat.reduceLT, Nat.reduceLeDiff, Nat.reduceEqDiff, ↓reduceIte, decide_true, decide_false, and_true, true_and, and_false, false_and, or_false, false_or, or_true, true_or, not_true_eq_false, not_false_eq_true, eq_self, Nat.zero_add, Nat.add_zero, Nat.mul_zero, Nat.mul_one, Nat.zero_le, Nat.not_lt_zero, bind_sm, bind_sm2, t_drunk h h1 hg hm, h 0 (by decide)]
  by_cases a1 : 4 ≤ v (72 + 4 * p)
  · rw [if_pos a1, if_pos a1]
  · rw [if_neg a1, if_neg a1]
    by_cases a2 : v 0 < drk v g mn
    · rw [if_pos a2, if_pos a2]
    · rw [if_neg a2, if_neg a2]
      by_cases a3 : v (72 + 4 * p) = 2
      · rw [if_pos a3]
        by_cases a4 : g = 0
        · rw [if_pos a4, if_neg (by omega)]
        · rw [if_neg a4, if_pos ⟨a3, a4⟩]
      · rw [if_neg a3, if_neg (fun q => a3 q.1)]
theorem t_mayDriveC (h : Cl m1 v) (hv : Vd v) {p g mn : Nat} (hp : p < v 4) (hg : g ≤ 200) (hm : mn ≤ 600) : f_X3_mayDrive m1 (n32 p) (n32 g) (n32 mn) = some (n32 (md v p g mn)) := by
  obtain ⟨⟨h4, h5, h0, h1, h6, h7, hP, hC⟩, hF⟩ := hv
  have hd := drk_le v g mn
  have hk := hP p hp
  obtain ⟨s, hs, es, hb⟩ := h.1.2.2.2.2.2.2.1
  have hk1 := hk.1
  have hk2 := hk.2.1
  unfold f_X3_mayDrive md
  rw [es, t_hasBit (by omega) (by omega), hb p (by omega)]
  simp (disch := omega) only [n32_lit, n32_add, n32_mul, n32_lt, n32_le, n32_eq, n32_nat, n32_inb, gd_dec, gd_one, nm_eq, jn_eq, Option.bind_some, Nat.reduceAdd, Nat.reduceMul, Nat.reduceSub, Nat.reduceLT, Nat.reduceLeDiff, Nat.reduceEqDiff, ↓reduceIte, decide_true, decide_false, and_true, true_and, and_false, false_and, or_false, false_or, or_true, true_or, not_true_eq_false, not_false_eq_true, eq_self, Nat.zero_add, Nat.add_zero, Nat.mul_zero, Nat.mul_one, Nat.zero_le, Nat.not_lt_zero, bind_sm, bind_sm2, t_drunkAfter h h1 hg hm, h.1.1, (h.1.2.2.2.2.2.2.2.1 p hp).1, n32_b0, t_isOfKind ⟨hk1, hk2⟩ (show 2 ≤ 5 by decide)]
  by_cases a1 : 4 ≤ v (72 + 4 * p)
  · rw [if_pos a1, if_neg (by simp; omega)]
  · rw [if_neg a1, if_pos (by simp; omega)]
    by_cases a3 : v (72 + 4 * p) = 2
    · rw [show isofk (v (72 + 4 * p)) 2 = 1 by rw [a3]; rfl]
      simp (disch := omega) only [n32_lit, n32_add, n32_mul, n32_lt, n32_le, n32_eq, n32_nat, n32_inb, gd_dec, gd_one, nm_eq, jn_eq, Option.bind_some, Nat.reduceAdd, Nat.reduceMul, Nat.reduceSub, Nat.reduceLT, Nat.reduceLeDiff, Nat.reduceEqDiff, ↓reduceIte, decide_true, decide_false, and_true, true_and, and_false, false_and, or_false, false_or, or_true, true_or, not_true_eq_false, not_false_eq_true, eq_self, Nat.zero_add, Nat.add_zero, Nat.mul_zero, Nat.mul_one, Nat.zero_le, Nat.not_lt_zero, bind_sm, bind_sm2]
      by_cases a4 : g = 0
      · rw [if_pos (by omega)]
        by_cases a2 : v 0 < drk v g mn
        · rw [if_pos a2, if_pos a2]
        · rw [if_neg a2, if_neg a2, if_neg (by omega)]
      · rw [if_neg (by omega)]
        by_cases a2 : v 0 < drk v g mn
        · rw [if_pos a2]
        · rw [if_neg a2, if_pos ⟨a3, a4⟩]
    · rw [show isofk (v (72 + 4 * p)) 2 = 0 by unfold isofk; rw [if_neg (by omega)]]
      simp (disch := omega) only [n32_lit, n32_add, n32_mul, n32_lt, n32_le, n32_eq, n32_nat, n32_inb, gd_dec, gd_one, nm_eq, jn_eq, Option.bind_some, Nat.reduceAdd, Nat.reduceMul, Nat.reduceSub, Nat.reduceLT, Nat.reduceLeDiff, Nat.reduceEqDiff, ↓reduceIte, decide_true, decide_false, and_true, true_and, and_false, false_and, or_false, false_or, or_true, true_or, not_true_eq_false, not_false_eq_true, eq_self, Nat.zero_add, Nat.add_zero, Nat.mul_zero, Nat.mul_one, Nat.zero_le, Nat.not_lt_zero, bind_sm, bind_sm2]
      by_cases a2 : v 0 < drk v g mn
      · rw [if_pos a2, if_pos a2]
      · rw [if_neg a2, if_neg a2, if_neg (fun q => a3 q.1)]
end EV
