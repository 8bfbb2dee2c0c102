/-! house -/
def fsm (f : Nat → Nat) : Nat → Nat
  | 0 => 0
  | n + 1 => fsm f n + f n
theorem fsm_all {f : Nat → Nat} : ∀ n, (∀ q, q < n → f q ≤ 900) → fsm f n ≤ 900 * n
  | 0, _ => by unfold fsm; omega
  | n + 1, h => by
    have := fsm_all n (fun q hq => h q (by omega))
    have := h n (by omega)
    unfold fsm; omega
theorem fsm_eq {f g : Nat → Nat} : ∀ n, (∀ q, q < n → g q = f q) → fsm g n = fsm f n
  | 0, _ => rfl
  | n + 1, h => by
    unfold fsm
    rw [fsm_eq n (fun q hq => h q (by omega)), h n (by omega)]
theorem fsm_ge {f : Nat → Nat} {b : Nat} : ∀ n, (∃ q, q < n ∧ b ≤ f q) → b ≤ fsm f n
  | 0, ⟨q, hq, _⟩ => by omega
  | n + 1, ⟨q, hq, h⟩ => by
    unfold fsm
    by_cases z : q = n
    · subst z; omega
    · have := fsm_ge n ⟨q, by omega, h⟩
      omega
theorem fsm_up {f : Nat → Nat} {b : Nat} : ∀ n, (∀ q, q < n → f q ≤ b) → fsm f n ≤ b * n
  | 0, _ => by unfold fsm; omega
  | n + 1, h => by
    have := fsm_up n (fun q hq => h q (by omega))
    have := h n (by omega)
    unfold fsm
    rw [Nat.mul_add]; omega
/-- minutes from p's home to all, of both sides -/
def fa8 (v : Nat → Nat) (p n : Nat) : Nat := fsm (fun q => v (8 + 8 * v (72 + 4 * p + 1) + v (72 + 4 * q + 1))) n
def fa7 (v : Nat → Nat) (p n : Nat) : Nat := fsm (fun q => farC (v (8 + 8 * v (72 + 4 * p + 1) + v (72 + 4 * q + 1)))) n
theorem farC_900 {x : Nat} (h : x ≤ 900) : farC x = x := by unfold farC; rw [if_pos (by omega)]
theorem farC_big : farC 10000 = 1000000 := by unfold farC; rw [if_neg (by omega)]
theorem fa_or {v : Nat → Nat} (hv : Vd v) {p : Nat} (hp : p < v 4) {n : Nat} (hn : n ≤ v 4) : (fa7 v p n = fa8 v p n ∧ fa8 v p n ≤ 6300) ∨ (10000 ≤ fa8 v p n ∧ 1000000 ≤ fa7 v p n) := by
  obtain ⟨⟨h4, h5, h0, h1', h6, h7, hP, hC⟩, hF, -⟩ := hv
  have hp1 := (hP p hp).2.2.1
  have hp2 := (hP p hp).2.2.2.1
  have hf : ∀ q, q < n → v (8 + 8 * v (72 + 4 * p + 1) + v (72 + 4 * q + 1)) ≤ 900 ∨ v (8 + 8 * v (72 + 4 * p + 1) + v (72 + 4 * q + 1)) = 10000 := fun q hq => hF _ _ (by omega) (by have := (hP q (by omega)).2.2.2.1; omega)
  by_cases z : ∀ q, q < n → v (8 + 8 * v (72 + 4 * p + 1) + v (72 + 4 * q + 1)) ≤ 900
  · left
    refine ⟨fsm_eq n (fun q hq => farC_900 (z q hq)), ?_⟩
    have := fsm_all (f := fun q => v (8 + 8 * v (72 + 4 * p + 1) + v (72 + 4 * q + 1))) n z
    unfold fa8; omega
  · right
    obtain ⟨q, hq, hz⟩ : ∃ q, q < n ∧ ¬ v (8 + 8 * v (72 + 4 * p + 1) + v (72 + 4 * q + 1)) ≤ 900 :=
      Classical.byContradiction (fun c => z (fun q hq => Classical.byContradiction (fun c2 => c ⟨q, hq, c2⟩)))
    have e := (hf q hq).resolve_left hz
    refine ⟨fsm_ge n ⟨q, hq, ?_⟩, fsm_ge n ⟨q, hq, ?_⟩⟩
    · show 10000 ≤ v _; omega
    · show 1000000 ≤ farC (v _); rw [e, farC_big]; exact Nat.le_refl _
theorem fa_lt {v : Nat → Nat} (hv : Vd v) {p : Nat} (hp : p < v 4) {n : Nat} (hn : n ≤ v 4) : fa7 v p n ≤ 7000000 ∧ fa8 v p n ≤ 70000 := by
  obtain ⟨⟨h4, h5, h0, h1', h6, h7, hP, hC⟩, hF, -⟩ := hv
  have hp1 := (hP p hp).2.2.1
  have hp2 := (hP p hp).2.2.2.1
  have hf : ∀ q, q < n → v (8 + 8 * v (72 + 4 * p + 1) + v (72 + 4 * q + 1)) ≤ 900 ∨ v (8 + 8 * v (72 + 4 * p + 1) + v (72 + 4 * q + 1)) = 10000 := fun q hq => hF _ _ (by omega) (by have := (hP q (by omega)).2.2.2.1; omega)
  have a := fsm_up (f := fun q => farC (v (8 + 8 * v (72 + 4 * p + 1) + v (72 + 4 * q + 1)))) (b := 1000000) n (fun q hq => by
    show farC (v _) ≤ _
    rcases hf q hq with h | h
    · rw [farC_900 h]; omega
    · rw [h, farC_big]; exact Nat.le_refl _)
  have b := fsm_up (f := fun q => v (8 + 8 * v (72 + 4 * p + 1) + v (72 + 4 * q + 1))) (b := 10000) n (fun q hq => by show v _ ≤ _; have := hf q hq; omega)
  unfold fa7 fa8
  omega
section EV
variable {m0 m1 : Mem} {told : Int32} {v : Nat → Nat}
theorem t_allFar {w : Mem} (h1 : Sh (w 6) v) (hv : Vd v) {p : Nat} (hp : p < v 4) : f_X8_allFar w (n32 (v (72 + 4 * p + 1))) = some (n32 (fa8 v p (v 4))) := by
  have hv' := hv
  obtain ⟨⟨h4, h5, h0, h1', h6, h7, hP, hC⟩, hF, -⟩ := hv'
  have hp2 := (hP p hp).2.2.2.1
  unfold f_X8_allFar
  obtain ⟨s, i1, i2⟩ := loop_k (S := Int32) (fun K t u s => f_X8_allFar_L4 (fun a b => K b a) (n32 (v (72 + 4 * p + 1))) w t s u) (v 4) (fun i s => s = n32 (fa8 v p i)) (fun K t s _ => by
      refine Eq.trans (f_X8_allFar_L4.eq_2 _ _ _ _ _ _) ?_
      simp (disch := omega) only [n32_lit, n32_add, n32_mul, n32_lt, n32_le, n32_eq, n32_nat, n32_inb, gd_dec, gd_one, nm_eq, jn_eq, Option.bind_some, Nat.reduceAdd, Nat.reduceMul, Nat.reduceSub, Nat.reduceLT, Nat.reduceLeDiff, Nat.reduceEqDiff, ↓reduceIte, decide_true, decide_false, and_true, true_and, and_false, false_and, or_false, false_or, or_true, true_or, not_true_eq_false, not_false_eq_true, eq_self, Nat.zero_add, Nat.add_zero, Nat.mul_zero, Nat.mul_one, Nat.zero_le, Nat.not_lt_zero, bind_sm, bind_sm2, h1 4 (by decide), Nat.le_refl]) (fun i s hi hI => ⟨n32 (fa8 v p (i + 1)), rfl, fun K t => by
      refine Eq.trans (f_X8_allFar_L4.eq_2 _ _ _ _ _ _) ?_
      have hk := (hP i hi).2.2.2.1
      have e := t_of (k := 1) h1 (p := i) (by omega) (by omega)
      have e' := t_farOf h1 (a := v (72 + 4 * p + 1)) (b := v (72 + 4 * i + 1)) (by omega) (by omega)
      subst hI
      simp (disch := omega) only [n32_lit, n32_add, n32_mul, n32_lt, n32_le, n32_eq, n32_nat, n32_inb, gd_dec, gd_one, nm_eq, jn_eq, Option.bind_some, Nat.reduceAdd, Nat.reduceMul, Nat.reduceSub, Nat.reduceLT, Nat.reduceLeDiff, Nat.reduceEqDiff, ↓reduceIte, decide_true, decide_false, and_true, true_and, and_false, false_and, or_false, false_or, or_true, true_or, not_true_eq_false, not_false_eq_true, eq_self, Nat.zero_add, Nat.add_zero, Nat.mul_zero, Nat.mul_one, Nat.zero_le, Nat.not_lt_zero, bind_sm, bind_sm2, h1 4 (by decide), show ¬ v 4 ≤ i by omega, e, e']
      rfl⟩) (v 4) 0 (n32 0) 100000 (by omega) (by omega) rfl
  rw [i1] at i2
  exact i2 (fun b a => some a)
theorem t_farFromAll (hc : Cl m1 v) (hv : Vd v) {p : Nat} (hp : p < v 4) : f_X3_farFromAll m1 (n32 p) = some (n32 (fa7 v p (v 4))) := by
  have hv' := hv
  obtain ⟨⟨h4, h5, h0, h1', h6, h7, hP, hC⟩, hF, -⟩ := hv'
  have hp2 := (hP p hp).2.2.2.1
  have c4 := hc.1.2.2.2.1
  have ep := (hc.1.2.2.2.2.2.2.2.1 p hp).2.1
  unfold f_X3_farFromAll
  obtain ⟨s, i1, i2⟩ := loop_k (S := Int32) (fun K t u s => f_X3_farFromAll_L4 (fun a b => K b a) (n32 p) m1 t s u) (v 4) (fun i s => s = n32 (fa7 v p i)) (fun K t s _ => by
      refine Eq.trans (f_X3_farFromAll_L4.eq_2 _ _ _ _ _ _) ?_
      simp (disch := omega) only [n32_lit, n32_add, n32_mul, n32_lt, n32_le, n32_eq, n32_nat, n32_inb, gd_dec, gd_one, nm_eq, jn_eq, Option.bind_some, Nat.reduceAdd, Nat.reduceMul, Nat.reduceSub, Nat.reduceLT, Nat.reduceLeDiff, Nat.reduceEqDiff, ↓reduceIte, decide_true, decide_false, and_true, true_and, and_false, false_and, or_false, false_or, or_true, true_or, not_true_eq_false, not_false_eq_true, eq_self, Nat.zero_add, Nat.add_zero, Nat.mul_zero, Nat.mul_one, Nat.zero_le, Nat.not_lt_zero, bind_sm, bind_sm2, c4, Nat.le_refl]) (fun i s hi hI => ⟨n32 (fa7 v p (i + 1)), rfl, fun K t => by
      refine Eq.trans (f_X3_farFromAll_L4.eq_2 _ _ _ _ _ _) ?_
      have hk := (hP i hi).2.2.2.1
      have e := (hc.1.2.2.2.2.2.2.2.1 i hi).2.1
      have e' := t_between hc (a := v (72 + 4 * p + 1)) (b := v (72 + 4 * i + 1)) (by omega) (by omega)
      subst hI
      simp (disch := omega) only [n32_lit, n32_add, n32_mul, n32_lt, n32_le, n32_eq, n32_nat, n32_inb, gd_dec, gd_one, nm_eq, jn_eq, Option.bind_some, Nat.reduceAdd, Nat.reduceMul, Nat.reduceSub, Nat.reduceLT, Nat.reduceLeDiff, Nat.reduceEqDiff, ↓reduceIte, decide_true, decide_false, and_true, true_and, and_false, false_and, or_false, false_or, or_true, true_or, not_true_eq_false, not_false_eq_true, eq_self, Nat.zero_add, Nat.add_zero, Nat.mul_zero, Nat.mul_one, Nat.zero_le, Nat.not_lt_zero, bind_sm, bind_sm2, c4, show ¬ v 4 ≤ i by omega, show p < 7 by omega, show i < 7 by omega, ep, e, e']
      rfl⟩) (v 4) 0 (n32 0) 100000 (by omega) (by omega) rfl
  rw [i1] at i2
  exact i2 (fun b a => some a)
/-- the best house so far, of both sides -/
def Hs (v : Nat → Nat) (b8 l8 b7 l7 : Int32) : Prop := b7 = b8 ∧ ((b8 = -n32 1000000 ∧ l8 = n32 10000 ∧ l7 = n32 1000000) ∨ ∃ p, p < v 4 ∧ b8 = n32 p ∧ fa7 v p (v 4) = fa8 v p (v 4) ∧ fa8 v p (v 4) ≤ 6300 ∧ l8 = n32 (fa8 v p (v 4)) ∧ l7 = n32 (fa8 v p (v 4)))
theorem t_house (h1 : Sh ((m0) 6) v) (hc : Cl m1 v) (hv : Vd v) : ∃ b8 l8 b7 l7, Hs v b8 l8 b7 l7 ∧ (∀ K8, f_X8_house_L38 K8 m0 100000 (-n32 1000000) (n32 10000) (n32 0) = K8 b8 l8 (n32 (v 4))) ∧ f_X3_bestHouse m1 = some b7 := by
  have hv' := hv
  obtain ⟨⟨h4, h5, h0, h1', h6, h7, hP, hC⟩, hF, -⟩ := hv'
  have c4 := hc.1.2.2.2.1
  unfold f_X3_bestHouse
  have key : ∀ d i b8 l8 b7 l7 t t', i + d = v 4 → d < t → d < t' → Hs v b8 l8 b7 l7 → ∃ b8' l8' b7' l7', Hs v b8' l8' b7' l7' ∧ (∀ K8, f_X8_house_L38 K8 m0 t b8 l8 (n32 i) = K8 b8' l8' (n32 (v 4))) ∧ f_X3_bestHouse_L8 (fun (u15 : Int32) (u16 : Int32) (u17 : Int32) => (some u15)) m1 t' b7 l7 (n32 i) = some b7' := by
    intro d
    induction d with
    | zero =>
      intro i b8 l8 b7 l7 t t' e1 e2 e3 hs
      obtain ⟨t, rfl⟩ : ∃ u, t = u + 1 := ⟨t - 1, by omega⟩
      obtain ⟨t', rfl⟩ : ∃ u, t' = u + 1 := ⟨t' - 1, by omega⟩
      have : i = v 4 := by omega
      subst this
      refine ⟨b8, l8, b7, l7, hs, ?_, ?_⟩
      · intro K8
        rw [f_X8_house_L38.eq_2]
        simp (maxSteps := 400000) (disch := omega) only [n32_lit, n32_add, n32_mul, n32_lt, n32_le, n32_eq, n32_nat, n32_inb, gd_dec, gdE, ↓nmE, ↓jnE, ↓bsE, Nat.reduceAdd, Nat.reduceMul, Nat.reduceSub, Nat.reduceLT, Nat.reduceLeDiff, Nat.reduceEqDiff, ↓reduceIte, decide_true, decide_false, and_true, true_and, and_false, false_and, or_false, false_or, or_true, true_or, not_true_eq_false, not_false_eq_true, eq_self, Nat.zero_add, Nat.add_zero, Nat.mul_zero, Nat.mul_one, Nat.zero_le, Nat.not_lt_zero, bind_sm, bind_sm2, h1 4 (by decide), Nat.le_refl]
      · rw [f_X3_bestHouse_L8.eq_2]
        simp (maxSteps := 400000) (disch := omega) only [n32_lit, n32_add, n32_mul, n32_lt, n32_le, n32_eq, n32_nat, n32_inb, gd_dec, gdE, ↓nmE, ↓jnE, ↓bsE, Nat.reduceAdd, Nat.reduceMul, Nat.reduceSub, Nat.reduceLT, Nat.reduceLeDiff, Nat.reduceEqDiff, ↓reduceIte, decide_true, decide_false, and_true, true_and, and_false, false_and, or_false, false_or, or_true, true_or, not_true_eq_false, not_false_eq_true, eq_self, Nat.zero_add, Nat.add_zero, Nat.mul_zero, Nat.mul_one, Nat.zero_le, Nat.not_lt_zero, bind_sm, bind_sm2, c4, Nat.le_refl]
    | succ d ih =>
      intro i b8 l8 b7 l7 t t' e1 e2 e3 hs
      obtain ⟨t, rfl⟩ : ∃ u, t = u + 1 := ⟨t - 1, by omega⟩
      obtain ⟨t', rfl⟩ : ∃ u, t' = u + 1 := ⟨t' - 1, by omega⟩
      have hi : i < v 4 := by omega
      have a1 := t_of (k := 1) h1 (p := i) (by omega) (by omega)
      have a2 := t_allFar h1 hv hi
      have a3 := t_farFromAll hc hv hi
      have a4 := fa_or hv hi (Nat.le_refl _)
      have a5 := fa_lt hv hi (Nat.le_refl _)
      have step : ∀ n8 n7, l8 = n32 n8 → l7 = n32 n7 → n8 < 2147483648 → n7 < 2147483648 → ((n8 ≤ fa8 v i (v 4)) ↔ (n7 ≤ fa7 v i (v 4))) → (¬ n8 ≤ fa8 v i (v 4) → fa7 v i (v 4) = fa8 v i (v 4) ∧ fa8 v i (v 4) ≤ 6300) → ∃ b8' l8' b7' l7', Hs v b8' l8' b7' l7' ∧ (∀ K8, f_X8_house_L38 K8 m0 (t + 1) b8 l8 (n32 i) = K8 b8' l8' (n32 (v 4))) ∧ f_X3_bestHouse_L8 (fun (u15 : Int32) (u16 : Int32) (u17 : Int32) => (some u15)) m1 (t' + 1) b7 l7 (n32 i) = some b7' := by
        intro n8 n7 k1 k2 k3 k4 k5 k6
        by_cases z : n8 ≤ fa8 v i (v 4)
        · obtain ⟨b8', l8', b7', l7', g1, g2, g3⟩ := ih (i + 1) b8 l8 b7 l7 t t' (by omega) (by omega) (by omega) hs
          refine ⟨b8', l8', b7', l7', g1, ?_, ?_⟩
          · intro K8
            rw [f_X8_house_L38.eq_2, ← g2 K8, k1]
            simp (maxSteps := 400000) (disch := omega) only [n32_lit, n32_add, n32_mul, n32_lt, n32_le, n32_eq, n32_nat, n32_inb, gd_dec, gdE, ↓nmE, ↓jnE, ↓bsE, Nat.reduceAdd, Nat.reduceMul, Nat.reduceSub, Nat.reduceLT, Nat.reduceLeDiff, Nat.reduceEqDiff, ↓reduceIte, decide_true, decide_false, and_true, true_and, and_false, false_and, or_false, false_or, or_true, true_or, not_true_eq_false, not_false_eq_true, eq_self, Nat.zero_add, Nat.add_zero, Nat.mul_zero, Nat.mul_one, Nat.zero_le, Nat.not_lt_zero, bind_sm, bind_sm2, h1 4 (by decide), show ¬ v 4 ≤ i by omega, a1, a2, z]
          · rw [f_X3_bestHouse_L8.eq_2, ← g3, k2]
            simp (maxSteps := 400000) (disch := omega) only [n32_lit, n32_add, n32_mul, n32_lt, n32_le, n32_eq, n32_nat, n32_inb, gd_dec, gdE, ↓nmE, ↓jnE, ↓bsE, Nat.reduceAdd, Nat.reduceMul, Nat.reduceSub, Nat.reduceLT, Nat.reduceLeDiff, Nat.reduceEqDiff, ↓reduceIte, decide_true, decide_false, and_true, true_and, and_false, false_and, or_false, false_or, or_true, true_or, not_true_eq_false, not_false_eq_true, eq_self, Nat.zero_add, Nat.add_zero, Nat.mul_zero, Nat.mul_one, Nat.zero_le, Nat.not_lt_zero, bind_sm, bind_sm2, c4, show ¬ v 4 ≤ i by omega, a3, k5.mp z]
        · obtain ⟨k7, k8⟩ := k6 z
          obtain ⟨b8', l8', b7', l7', g1, g2, g3⟩ := ih (i + 1) (n32 i) (n32 (fa8 v i (v 4))) (n32 i) (n32 (fa8 v i (v 4))) t t' (by omega) (by omega) (by omega) ⟨rfl, Or.inr ⟨i, hi, rfl, k7, k8, rfl, rfl⟩⟩
          refine ⟨b8', l8', b7', l7', g1, ?_, ?_⟩
          · intro K8
            rw [f_X8_house_L38.eq_2, ← g2 K8, k1]
            simp (maxSteps := 400000) (disch := omega) only [n32_lit, n32_add, n32_mul, n32_lt, n32_le, n32_eq, n32_nat, n32_inb, gd_dec, gdE, ↓nmE, ↓jnE, ↓bsE, Nat.reduceAdd, Nat.reduceMul, Nat.reduceSub, Nat.reduceLT, Nat.reduceLeDiff, Nat.reduceEqDiff, ↓reduceIte, decide_true, decide_false, and_true, true_and, and_false, false_and, or_false, false_or, or_true, true_or, not_true_eq_false, not_false_eq_true, eq_self, Nat.zero_add, Nat.add_zero, Nat.mul_zero, Nat.mul_one, Nat.zero_le, Nat.not_lt_zero, bind_sm, bind_sm2, h1 4 (by decide), show ¬ v 4 ≤ i by omega, a1, a2, z]
          · rw [f_X3_bestHouse_L8.eq_2, ← g3, k2]
            simp (maxSteps := 400000) (disch := omega) only [n32_lit, n32_add, n32_mul, n32_lt, n32_le, n32_eq, n32_nat, n32_inb, gd_dec, gdE, ↓nmE, ↓jnE, ↓bsE, Nat.reduceAdd, Nat.reduceMul, Nat.reduceSub, Nat.reduceLT, Nat.reduceLeDiff, Nat.reduceEqDiff, ↓reduceIte, decide_true, decide_false, and_true, true_and, and_false, false_and, or_false, false_or, or_true, true_or, not_true_eq_false, not_false_eq_true, eq_self, Nat.zero_add, Nat.add_zero, Nat.mul_zero, Nat.mul_one, Nat.zero_le, Nat.not_lt_zero, bind_sm, bind_sm2, c4, show ¬ v 4 ≤ i by omega, a3, show ¬ n7 ≤ fa7 v i (v 4) from fun q => z (k5.mpr q)]
            rw [k7]
      obtain ⟨-, hs2⟩ := hs
      rcases hs2 with ⟨s1, s2, s3⟩ | ⟨p, s1, s2, s3, s4, s5, s6⟩
      · exact step 10000 1000000 s2 s3 (by omega) (by omega) (by omega) (by omega)
      · exact step _ _ s5 s6 (by omega) (by omega) (by omega) (by omega)
  exact key (v 4) 0 _ _ _ _ 100000 100000 (by omega) (by omega) (by omega) ⟨rfl, Or.inl ⟨rfl, rfl, rfl⟩⟩
theorem s_house (hE : REv ((up m0 0 0 0) 6) ((up m0 0 0 0) 0 7) m1 v) (x : Int32) : Same (f_X7_house m1 x) (f_X8_house m0 x) m0 := by
  unfold f_X7_house f_X8_house Same
  rw [nm_eq (up m0 0 0 0)]
  generalize hw : up m0 0 0 0 = w at *
  obtain ⟨h1, hv, hc, ht, ht2⟩ := hE
  rw [ht]
  rcases ht2 with t0 | t0
  · simp (maxSteps := 400000) (disch := omega) only [n32_lit, n32_add, n32_mul, n32_lt, n32_le, n32_eq, n32_nat, n32_inb, gd_dec, gdE, ↓nmE, ↓jnE, ↓bsE, Nat.reduceAdd, Nat.reduceMul, Nat.reduceSub, Nat.reduceLT, Nat.reduceLeDiff, Nat.reduceEqDiff, ↓reduceIte, decide_true, decide_false, and_true, true_and, and_false, false_and, or_false, false_or, or_true, true_or, not_true_eq_false, not_false_eq_true, eq_self, Nat.zero_add, Nat.add_zero, Nat.mul_zero, Nat.mul_one, Nat.zero_le, Nat.not_lt_zero, bind_sm, bind_sm2, t0]
    exact ⟨_, rfl, rfl⟩
  · rcases tri x (k := 1) (by decide) with ⟨j, hj, rfl⟩ | q
    · rw [in_yes (b := 1) (k := 1) rfl hj (by decide)]
      have h4 := hv.1.1
      have hne : ∀ p, p < v 4 → ¬ n32 p = -n32 1000000 := fun p hp z => by
        have := neg_ne (x := -n32 1000000) (by decide) (b := p) (by omega)
        rw [← z] at this; exact of_eq_false this rfl
      obtain ⟨b8, l8, b7, l7, ⟨g0, g1⟩, g2, g3⟩ := t_house h1 hc hv
      subst g0
      rcases g1 with ⟨k1, k2, k3⟩ | ⟨p, k1, k2, k3, k4, k5, k6⟩
      · simp (maxSteps := 400000) (disch := omega) only [n32_lit, n32_add, n32_mul, n32_lt, n32_le, n32_eq, n32_nat, n32_inb, gd_dec, gdE, ↓nmE, ↓jnE, ↓bsE, Nat.reduceAdd, Nat.reduceMul, Nat.reduceSub, Nat.reduceLT, Nat.reduceLeDiff, Nat.reduceEqDiff, ↓reduceIte, decide_true, decide_false, and_true, true_and, and_false, false_and, or_false, false_or, or_true, true_or, not_true_eq_false, not_false_eq_true, eq_self, Nat.zero_add, Nat.add_zero, Nat.mul_zero, Nat.mul_one, Nat.zero_le, Nat.not_lt_zero, bind_sm, bind_sm2, t0, hj, g2, g3, k1]
        exact ⟨_, rfl, rfl⟩
      · have e := t_farFromAll hc hv k1
        rcases (show j = 0 ∨ j = 1 by omega) with rfl | rfl
        · simp (maxSteps := 400000) (disch := omega) only [n32_lit, n32_add, n32_mul, n32_lt, n32_le, n32_eq, n32_nat, n32_inb, gd_dec, gdE, ↓nmE, ↓jnE, ↓bsE, Nat.reduceAdd, Nat.reduceMul, Nat.reduceSub, Nat.reduceLT, Nat.reduceLeDiff, Nat.reduceEqDiff, ↓reduceIte, decide_true, decide_false, and_true, true_and, and_false, false_and, or_false, false_or, or_true, true_or, not_true_eq_false, not_false_eq_true, eq_self, Nat.zero_add, Nat.add_zero, Nat.mul_zero, Nat.mul_one, Nat.zero_le, Nat.not_lt_zero, bind_sm, bind_sm2, t0, g2, g3, k2, hne p k1]
          exact ⟨_, rfl, rfl⟩
        · simp (maxSteps := 400000) (disch := omega) only [n32_lit, n32_add, n32_mul, n32_lt, n32_le, n32_eq, n32_nat, n32_inb, gd_dec, gdE, ↓nmE, ↓jnE, ↓bsE, Nat.reduceAdd, Nat.reduceMul, Nat.reduceSub, Nat.reduceLT, Nat.reduceLeDiff, Nat.reduceEqDiff, ↓reduceIte, decide_true, decide_false, and_true, true_and, and_false, false_and, or_false, false_or, or_true, true_or, not_true_eq_false, not_false_eq_true, eq_self, Nat.zero_add, Nat.add_zero, Nat.mul_zero, Nat.mul_one, Nat.zero_le, Nat.not_lt_zero, bind_sm, bind_sm2, t0, g2, g3, k2, hne p k1, e, k3, k5]
          exact ⟨_, rfl, rfl⟩
    · rw [in_no (b := 1) (k := 1) rfl (by decide) q]
      by_cases z0 : x < n32 0
      · simp (maxSteps := 400000) (disch := omega) only [n32_lit, n32_add, n32_mul, n32_lt, n32_le, n32_eq, n32_nat, n32_inb, gd_dec, gdE, ↓nmE, ↓jnE, ↓bsE, Nat.reduceAdd, Nat.reduceMul, Nat.reduceSub, Nat.reduceLT, Nat.reduceLeDiff, Nat.reduceEqDiff, ↓reduceIte, decide_true, decide_false, and_true, true_and, and_false, false_and, or_false, false_or, or_true, true_or, not_true_eq_false, not_false_eq_true, eq_self, Nat.zero_add, Nat.add_zero, Nat.mul_zero, Nat.mul_one, Nat.zero_le, Nat.not_lt_zero, bind_sm, bind_sm2, t0, z0]
        exact ⟨_, rfl, rfl⟩
      · have z2 : (x ≤ n32 1) = False := eq_false (by rw [i32_nle]; exact q.resolve_left z0)
        simp (maxSteps := 400000) (disch := omega) only [n32_lit, n32_add, n32_mul, n32_lt, n32_le, n32_eq, n32_nat, n32_inb, gd_dec, gdE, ↓nmE, ↓jnE, ↓bsE, Nat.reduceAdd, Nat.reduceMul, Nat.reduceSub, Nat.reduceLT, Nat.reduceLeDiff, Nat.reduceEqDiff, ↓reduceIte, decide_true, decide_false, and_true, true_and, and_false, false_and, or_false, false_or, or_true, true_or, not_true_eq_false, not_false_eq_true, eq_self, Nat.zero_add, Nat.add_zero, Nat.mul_zero, Nat.mul_one, Nat.zero_le, Nat.not_lt_zero, bind_sm, bind_sm2, t0, z0, z2]
        exact ⟨_, rfl, rfl⟩
end EV
