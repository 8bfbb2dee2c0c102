/-! turn -/
def lfe (tm : Nat → Nat) : Nat → Nat
  | 0 => 0
  | n + 1 => if tm (lfe tm n) ≤ tm n then lfe tm n else n
def mfe (tm : Nat → Nat) : Nat → Nat
  | 0 => 0
  | n + 1 => if tm n ≤ tm (mfe tm n) then mfe tm n else n
theorem lfe_lt (tm : Nat → Nat) : ∀ n, lfe tm (n + 1) ≤ n
  | 0 => by unfold lfe; unfold lfe; split <;> omega
  | n + 1 => by
    have := lfe_lt tm n
    rw [lfe]; split <;> omega
theorem mfe_lt (tm : Nat → Nat) : ∀ n, mfe tm (n + 1) ≤ n
  | 0 => by unfold mfe; unfold mfe; split <;> omega
  | n + 1 => by
    have := mfe_lt tm n
    rw [mfe]; split <;> omega
theorem lfe_1 (tm : Nat → Nat) : lfe tm 1 = 0 := Nat.le_zero.mp (lfe_lt tm 0)
theorem mfe_1 (tm : Nat → Nat) : mfe tm 1 = 0 := Nat.le_zero.mp (mfe_lt tm 0)
theorem mfe_max (tm : Nat → Nat) : ∀ n p, p < n → tm p ≤ tm (mfe tm n)
  | 0, p, h => by omega
  | n + 1, p, h => by
    rw [mfe]
    by_cases z : p = n
    · subst z; split <;> omega
    · have := mfe_max tm n p (by omega)
      split <;> omega
theorem fsm_miss {tm : Nat → Nat} {M : Nat} : ∀ n, (∀ p, p < n → tm p ≤ M) → fsm (fun p => M - tm p) n + fsm tm n = M * n
  | 0, _ => by unfold fsm; omega
  | n + 1, h => by
    have := fsm_miss n (fun p hp => h p (by omega))
    have := h n (by omega)
    unfold fsm
    rw [Nat.mul_add]; omega
theorem fsm_set {tm : Nat → Nat} {q : Nat} : ∀ n, q < n → fsm (vset tm q (tm q + 1)) n = fsm tm n + 1
  | 0, h => by omega
  | n + 1, h => by
    unfold fsm
    by_cases z : q = n
    · subst z
      rw [vset_at, fsm_eq (f := tm) q (fun p hp => vset_ne (by omega))]; omega
    · rw [fsm_set n (by omega), vset_ne (by omega)]; omega
/-- times on both sides -/
def Tm (P b : Nat) (tm : Nat → Nat) (w m7 : Mem) : Prop := ∀ p, p < P → tm p ≤ b ∧ w 33 p = n32 (tm p) ∧ m7 1 p = n32 (tm p)
def PTu (s i : Nat) : Prop := s = 33 ∨ (s = 0 ∧ i = 1)
def TuStep (f7 : Option (Int32 × Mem × Mem)) (f8 : Option (Int32 × Mem)) (w : Mem) : Prop :=
  ∃ (a : Int32) (m7' m11' w' : Mem), f7 = some (a, m7', m11') ∧ f8 = some (a, w') ∧ Fr PTu w w' ∧ RSt (w' 0 1) m11'
theorem t_noTimes (w : Mem) : ∃ w', f_X8_noTimes w = some w' ∧ ∀ s j, w' s j = if s = 33 ∧ j < 7 then 0 else w s j := by
  unfold f_X8_noTimes
  obtain ⟨s, i1, i2⟩ := loop_k (S := Mem) (fun K t u s => f_X8_noTimes_L2 K t u s) 7 (fun i r => ∀ s j, r s j = if s = 33 ∧ j < i then 0 else w s j) (fun K t s _ => by
      refine Eq.trans (f_X8_noTimes_L2.eq_2 _ _ _ _) ?_
      simp (disch := omega) only [n32_lit, n32_add, n32_mul, n32_lt, n32_le, n32_eq, n32_nat, n32_inb, gd_dec, gd_one, nm_eq, jn_eq, Option.bind_some, Nat.reduceAdd, Nat.reduceMul, Nat.reduceSub, Nat.reduceLT, Nat.reduceLeDiff, Nat.reduceEqDiff, ↓reduceIte, decide_true, decide_false, and_true, true_and, and_false, false_and, or_false, false_or, or_true, true_or, not_true_eq_false, not_false_eq_true, eq_self, Nat.zero_add, Nat.add_zero, Nat.mul_zero, Nat.mul_one, Nat.zero_le, Nat.not_lt_zero, bind_sm, bind_sm2]) (fun i s hi hI => ⟨up s 33 i 0, fun s' j => by
        rw [up_ap, hI]
        by_cases z1 : s' = 33
        · by_cases z2 : j = i
          · rw [if_pos ⟨z1, z2⟩, if_pos (by omega)]
          · rw [if_neg (by omega)]
            by_cases z3 : j < i
            · rw [if_pos ⟨z1, z3⟩, if_pos (by omega)]
            · rw [if_neg (by omega), if_neg (by omega)]
        · rw [if_neg (by omega), if_neg (by omega), if_neg (by omega)], fun K t => by
      refine Eq.trans (f_X8_noTimes_L2.eq_2 _ _ _ _) ?_
      simp (disch := omega) only [n32_lit, n32_add, n32_mul, n32_lt, n32_le, n32_eq, n32_nat, n32_inb, gd_dec, gd_one, nm_eq, jn_eq, Option.bind_some, Nat.reduceAdd, Nat.reduceMul, Nat.reduceSub, Nat.reduceLT, Nat.reduceLeDiff, Nat.reduceEqDiff, ↓reduceIte, decide_true, decide_false, and_true, true_and, and_false, false_and, or_false, false_or, or_true, true_or, not_true_eq_false, not_false_eq_true, eq_self, Nat.zero_add, Nat.add_zero, Nat.mul_zero, Nat.mul_one, Nat.zero_le, Nat.not_lt_zero, bind_sm, bind_sm2, show ¬ 7 ≤ i by omega, hi]⟩) 7 0 w 100000 (by omega) (by omega) (fun s j => by rw [if_neg (by omega)])
  exact ⟨s, i2 _, i1⟩
section TT
variable {w m7 : Mem} {P b : Nat} {tm : Nat → Nat}
theorem t_few (h : Tm P b tm w m7) (hP : 1 ≤ P ∧ P ≤ 7) (hb : b ≤ 1000) : f_X1_firstOfFewest m7 (n32 P) = some (n32 (lfe tm P)) := by
  unfold f_X1_firstOfFewest
  obtain ⟨s, i1, i2⟩ := loop_k (S := Int32) (fun K t u s => f_X1_firstOfFewest_L4 (fun a b => K b a) (n32 P) m7 t s u) P (fun i s => 1 ≤ i ∧ s = n32 (lfe tm i)) (fun K t s _ => by
      refine Eq.trans (f_X1_firstOfFewest_L4.eq_2 _ _ _ _ _ _) ?_
      simp (disch := omega) only [n32_lit, n32_add, n32_mul, n32_lt, n32_le, n32_eq, n32_nat, n32_inb, gd_dec, gd_one, nm_eq, jn_eq, Option.bind_some, Nat.reduceAdd, Nat.reduceMul, Nat.reduceSub, Nat.reduceLT, Nat.reduceLeDiff, Nat.reduceEqDiff, ↓reduceIte, decide_true, decide_false, and_true, true_and, and_false, false_and, or_false, false_or, or_true, true_or, not_true_eq_false, not_false_eq_true, eq_self, Nat.zero_add, Nat.add_zero, Nat.mul_zero, Nat.mul_one, Nat.zero_le, Nat.not_lt_zero, bind_sm, bind_sm2, Nat.le_refl]) (fun i s hi hI => ⟨n32 (lfe tm (i + 1)), ⟨by omega, rfl⟩, fun K t => by
      refine Eq.trans (f_X1_firstOfFewest_L4.eq_2 _ _ _ _ _ _) ?_
      obtain ⟨hi1, rfl⟩ := hI
      have l := lfe_lt tm (i - 1)
      rw [show i - 1 + 1 = i by omega] at l
      obtain ⟨a1, a2, a3⟩ := h i (by omega)
      obtain ⟨b1, b2, b3⟩ := h (lfe tm i) (by omega)
      rw [lfe]
      simp (disch := omega) only [n32_lit, n32_add, n32_mul, n32_lt, n32_le, n32_eq, n32_nat, n32_inb, gd_dec, gd_one, nm_eq, jn_eq, Option.bind_some, Nat.reduceAdd, Nat.reduceMul, Nat.reduceSub, Nat.reduceLT, Nat.reduceLeDiff, Nat.reduceEqDiff, ↓reduceIte, decide_true, decide_false, and_true, true_and, and_false, false_and, or_false, false_or, or_true, true_or, not_true_eq_false, not_false_eq_true, eq_self, Nat.zero_add, Nat.add_zero, Nat.mul_zero, Nat.mul_one, Nat.zero_le, Nat.not_lt_zero, bind_sm, bind_sm2, show ¬ P ≤ i by omega, show i < 7 by omega, show lfe tm i < 7 by omega, a3, b3]
      split <;> rfl⟩) (P - 1) 1 (n32 0) 100000 (by omega) (by omega) ⟨by omega, by rw [lfe_1]⟩
  rw [i1.2] at i2
  exact i2 (fun b a => some a)
theorem t_most (h : Tm P b tm w m7) (hP : 1 ≤ P ∧ P ≤ 7) (hb : b ≤ 1000) : f_X1_firstOfMost m7 (n32 P) = some (n32 (mfe tm P)) := by
  unfold f_X1_firstOfMost
  obtain ⟨s, i1, i2⟩ := loop_k (S := Int32) (fun K t u s => f_X1_firstOfMost_L4 (fun a b => K b a) (n32 P) m7 t s u) P (fun i s => 1 ≤ i ∧ s = n32 (mfe tm i)) (fun K t s _ => by
      refine Eq.trans (f_X1_firstOfMost_L4.eq_2 _ _ _ _ _ _) ?_
      simp (disch := omega) only [n32_lit, n32_add, n32_mul, n32_lt, n32_le, n32_eq, n32_nat, n32_inb, gd_dec, gd_one, nm_eq, jn_eq, Option.bind_some, Nat.reduceAdd, Nat.reduceMul, Nat.reduceSub, Nat.reduceLT, Nat.reduceLeDiff, Nat.reduceEqDiff, ↓reduceIte, decide_true, decide_false, and_true, true_and, and_false, false_and, or_false, false_or, or_true, true_or, not_true_eq_false, not_false_eq_true, eq_self, Nat.zero_add, Nat.add_zero, Nat.mul_zero, Nat.mul_one, Nat.zero_le, Nat.not_lt_zero, bind_sm, bind_sm2, Nat.le_refl]) (fun i s hi hI => ⟨n32 (mfe tm (i + 1)), ⟨by omega, rfl⟩, fun K t => by
      refine Eq.trans (f_X1_firstOfMost_L4.eq_2 _ _ _ _ _ _) ?_
      obtain ⟨hi1, rfl⟩ := hI
      have l := mfe_lt tm (i - 1)
      rw [show i - 1 + 1 = i by omega] at l
      obtain ⟨a1, a2, a3⟩ := h i (by omega)
      obtain ⟨b1, b2, b3⟩ := h (mfe tm i) (by omega)
      rw [mfe]
      simp (disch := omega) only [n32_lit, n32_add, n32_mul, n32_lt, n32_le, n32_eq, n32_nat, n32_inb, gd_dec, gd_one, nm_eq, jn_eq, Option.bind_some, Nat.reduceAdd, Nat.reduceMul, Nat.reduceSub, Nat.reduceLT, Nat.reduceLeDiff, Nat.reduceEqDiff, ↓reduceIte, decide_true, decide_false, and_true, true_and, and_false, false_and, or_false, false_or, or_true, true_or, not_true_eq_false, not_false_eq_true, eq_self, Nat.zero_add, Nat.add_zero, Nat.mul_zero, Nat.mul_one, Nat.zero_le, Nat.not_lt_zero, bind_sm, bind_sm2, show ¬ P ≤ i by omega, show i < 7 by omega, show mfe tm i < 7 by omega, a3, b3]
      split <;> rfl⟩) (P - 1) 1 (n32 0) 100000 (by omega) (by omega) ⟨by omega, by rw [mfe_1]⟩
  rw [i1.2] at i2
  exact i2 (fun b a => some a)
theorem t_missing' (h : Tm P b tm w m7) (hP : 1 ≤ P ∧ P ≤ 7) (hb : b ≤ 1000) : f_X1_missingDrives m7 (n32 P) = some (n32 (fsm (fun p => tm (mfe tm P) - tm p) P)) := by
  have l := mfe_lt tm (P - 1)
  rw [show P - 1 + 1 = P by omega] at l
  unfold f_X1_missingDrives
  obtain ⟨b1, b2, b3⟩ := h (mfe tm P) (by omega)
  have hm := mfe_max tm P
  simp (maxSteps := 400000) (disch := omega) only [n32_lit, n32_add, n32_mul, n32_lt, n32_le, n32_eq, n32_nat, n32_inb, gd_dec, gdE, ↓nmE, ↓jnE, ↓bsE, Nat.reduceAdd, Nat.reduceMul, Nat.reduceSub, Nat.reduceLT, Nat.reduceLeDiff, Nat.reduceEqDiff, ↓reduceIte, decide_true, decide_false, and_true, true_and, and_false, false_and, or_false, false_or, or_true, true_or, not_true_eq_false, not_false_eq_true, eq_self, Nat.zero_add, Nat.add_zero, Nat.mul_zero, Nat.mul_one, Nat.zero_le, Nat.not_lt_zero, bind_sm, bind_sm2, t_most h hP hb, show mfe tm P < 7 by omega, b3]
  obtain ⟨s, i1, i2⟩ := loop_k (S := Int32) (fun K t u s => f_X1_missingDrives_L16 (fun a b => K b a) (n32 P) m7 (n32 (tm (mfe tm P))) t s u) P (fun i s => s = n32 (fsm (fun p => tm (mfe tm P) - tm p) i)) (fun K t s _ => by
      refine Eq.trans (f_X1_missingDrives_L16.eq_2 _ _ _ _ _ _ _) ?_
      simp (disch := omega) only [n32_lit, n32_add, n32_mul, n32_lt, n32_le, n32_eq, n32_nat, n32_inb, gd_dec, gd_one, nm_eq, jn_eq, Option.bind_some, Nat.reduceAdd, Nat.reduceMul, Nat.reduceSub, Nat.reduceLT, Nat.reduceLeDiff, Nat.reduceEqDiff, ↓reduceIte, decide_true, decide_false, and_true, true_and, and_false, false_and, or_false, false_or, or_true, true_or, not_true_eq_false, not_false_eq_true, eq_self, Nat.zero_add, Nat.add_zero, Nat.mul_zero, Nat.mul_one, Nat.zero_le, Nat.not_lt_zero, bind_sm, bind_sm2, Nat.le_refl]) (fun i s hi hI => ⟨n32 (fsm (fun p => tm (mfe tm P) - tm p) (i + 1)), rfl, fun K t => by
      refine Eq.trans (f_X1_missingDrives_L16.eq_2 _ _ _ _ _ _ _) ?_
      obtain ⟨a1, a2, a3⟩ := h i (by omega)
      subst hI
      rw [fsm]
      simp (disch := omega) only [n32_lit, n32_add, n32_mul, n32_lt, n32_le, n32_eq, n32_nat, n32_inb, gd_dec, gd_one, nm_eq, jn_eq, Option.bind_some, Nat.reduceAdd, Nat.reduceMul, Nat.reduceSub, Nat.reduceLT, Nat.reduceLeDiff, Nat.reduceEqDiff, ↓reduceIte, decide_true, decide_false, and_true, true_and, and_false, false_and, or_false, false_or, or_true, true_or, not_true_eq_false, not_false_eq_true, eq_self, Nat.zero_add, Nat.add_zero, Nat.mul_zero, Nat.mul_one, Nat.zero_le, Nat.not_lt_zero, bind_sm, bind_sm2, show ¬ P ≤ i by omega, show i < 7 by omega, a3, n32_sub (hm i hi)]⟩) P 0 (n32 0) 100000 (by omega) (by omega) rfl
  rw [i1] at i2
  exact i2 (fun b a => some a)
theorem t_both (h : Tm P b tm w m7) (hP : 1 ≤ P ∧ P ≤ 7) (hb : b ≤ 1000) (e : w 6 4 = n32 P) (K : Int32 → Int32 → Int32 → Option (Int32 × Mem)) : f_X8_turn_L141 K w 100000 (n32 0) (n32 0) (n32 1) = K (n32 (lfe tm P)) (n32 (mfe tm P)) (n32 P) := by
  obtain ⟨s, i1, i2⟩ := loop_k (S := Int32 × Int32) (fun K t u s => f_X8_turn_L141 (fun a b c => K c (a, b)) w t s.1 s.2 u) P (fun i s => 1 ≤ i ∧ s = (n32 (lfe tm i), n32 (mfe tm i))) (fun K t s _ => by
      refine Eq.trans (f_X8_turn_L141.eq_2 _ _ _ _ _ _) ?_
      simp (disch := omega) only [n32_lit, n32_add, n32_mul, n32_lt, n32_le, n32_eq, n32_nat, n32_inb, gd_dec, gd_one, nm_eq, jn_eq, Option.bind_some, Nat.reduceAdd, Nat.reduceMul, Nat.reduceSub, Nat.reduceLT, Nat.reduceLeDiff, Nat.reduceEqDiff, ↓reduceIte, decide_true, decide_false, and_true, true_and, and_false, false_and, or_false, false_or, or_true, true_or, not_true_eq_false, not_false_eq_true, eq_self, Nat.zero_add, Nat.add_zero, Nat.mul_zero, Nat.mul_one, Nat.zero_le, Nat.not_lt_zero, bind_sm, bind_sm2, e, Nat.le_refl]) (fun i s hi hI => ⟨(n32 (lfe tm (i + 1)), n32 (mfe tm (i + 1))), ⟨by omega, rfl⟩, fun K t => by
      refine Eq.trans (f_X8_turn_L141.eq_2 _ _ _ _ _ _) ?_
      obtain ⟨hi1, rfl⟩ := hI
      have l := lfe_lt tm (i - 1)
      have l' := mfe_lt tm (i - 1)
      rw [show i - 1 + 1 = i by omega] at l l'
      obtain ⟨a1, a2, a3⟩ := h i (by omega)
      obtain ⟨b1, b2, b3⟩ := h (lfe tm i) (by omega)
      obtain ⟨c1, c2, c3⟩ := h (mfe tm i) (by omega)
      rw [lfe, mfe]
      simp (disch := omega) only [n32_lit, n32_add, n32_mul, n32_lt, n32_le, n32_eq, n32_nat, n32_inb, gd_dec, gd_one, nm_eq, jn_eq, Option.bind_some, Nat.reduceAdd, Nat.reduceMul, Nat.reduceSub, Nat.reduceLT, Nat.reduceLeDiff, Nat.reduceEqDiff, ↓reduceIte, decide_true, decide_false, and_true, true_and, and_false, false_and, or_false, false_or, or_true, true_or, not_true_eq_false, not_false_eq_true, eq_self, Nat.zero_add, Nat.add_zero, Nat.mul_zero, Nat.mul_one, Nat.zero_le, Nat.not_lt_zero, bind_sm, bind_sm2, e, show ¬ P ≤ i by omega, show i < 7 by omega, show lfe tm i < 7 by omega, show mfe tm i < 7 by omega, a2, b2, c2]
      by_cases z1 : tm (lfe tm i) ≤ tm i
      · by_cases z2 : tm i ≤ tm (mfe tm i)
        · simp only [z1, z2, ↓reduceIte]
        · simp only [z1, z2, ↓reduceIte]
      · by_cases z2 : tm i ≤ tm (mfe tm i)
        · simp only [z1, z2, ↓reduceIte]
        · simp only [z1, z2, ↓reduceIte]⟩) (P - 1) 1 (n32 0, n32 0) 100000 (by omega) (by omega) ⟨by omega, by rw [lfe_1, mfe_1]⟩
  rw [i1.2] at i2
  exact i2 (fun c ab => K ab.1 ab.2 c)
theorem t_most8 (h : Tm P b tm w m7) (hP : 1 ≤ P ∧ P ≤ 7) (hb : b ≤ 1000) (e : w 6 4 = n32 P) (K : Int32 → Int32 → Option (Int32 × Mem)) : f_X8_gloves_L185 K w 100000 (n32 0) (n32 1) = K (n32 (mfe tm P)) (n32 P) := by
  obtain ⟨s, i1, i2⟩ := loop_k (S := Int32) (fun K t u s => f_X8_gloves_L185 (fun a b => K b a) w t s u) P (fun i s => 1 ≤ i ∧ s = n32 (mfe tm i)) (fun K t s _ => by
      refine Eq.trans (f_X8_gloves_L185.eq_2 _ _ _ _ _) ?_
      simp (disch := omega) only [n32_lit, n32_add, n32_mul, n32_lt, n32_le, n32_eq, n32_nat, n32_inb, gd_dec, gd_one, nm_eq, jn_eq, Option.bind_some, Nat.reduceAdd, Nat.reduceMul, Nat.reduceSub, Nat.reduceLT, Nat.reduceLeDiff, Nat.reduceEqDiff, ↓reduceIte, decide_true, decide_false, and_true, true_and, and_false, false_and, or_false, false_or, or_true, true_or, not_true_eq_false, not_false_eq_true, eq_self, Nat.zero_add, Nat.add_zero, Nat.mul_zero, Nat.mul_one, Nat.zero_le, Nat.not_lt_zero, bind_sm, bind_sm2, e, Nat.le_refl]) (fun i s hi hI => ⟨n32 (mfe tm (i + 1)), ⟨by omega, rfl⟩, fun K t => by
      refine Eq.trans (f_X8_gloves_L185.eq_2 _ _ _ _ _) ?_
      obtain ⟨hi1, rfl⟩ := hI
      have l := mfe_lt tm (i - 1)
      rw [show i - 1 + 1 = i by omega] at l
      obtain ⟨a1, a2, a3⟩ := h i (by omega)
      obtain ⟨b1, b2, b3⟩ := h (mfe tm i) (by omega)
      rw [mfe]
      simp (disch := omega) only [n32_lit, n32_add, n32_mul, n32_lt, n32_le, n32_eq, n32_nat, n32_inb, gd_dec, gd_one, nm_eq, jn_eq, Option.bind_some, Nat.reduceAdd, Nat.reduceMul, Nat.reduceSub, Nat.reduceLT, Nat.reduceLeDiff, Nat.reduceEqDiff, ↓reduceIte, decide_true, decide_false, and_true, true_and, and_false, false_and, or_false, false_or, or_true, true_or, not_true_eq_false, not_false_eq_true, eq_self, Nat.zero_add, Nat.add_zero, Nat.mul_zero, Nat.mul_one, Nat.zero_le, Nat.not_lt_zero, bind_sm, bind_sm2, e, show ¬ P ≤ i by omega, show i < 7 by omega, show mfe tm i < 7 by omega, a2, b2]
      split <;> rfl⟩) (P - 1) 1 (n32 0) 100000 (by omega) (by omega) ⟨by omega, by rw [mfe_1]⟩
  rw [i1.2] at i2
  exact i2 (fun b a => K a b)
end TT
