/-! the fewest minutes -/
def Gd (d : Nat → Nat → Nat) : Prop := (∀ a b, a < 8 → b < 8 → d a b ≤ 900 ∨ d a b = 10000) ∧ ∀ a, a < 8 → d a a = 0
def nx (m : Nat) (d : Nat → Nat → Nat) : Nat → Nat → Nat := fun a b => if d a m + d m b < d a b then d a m + d m b else d a b
def cur (m : Nat) (d : Nat → Nat → Nat) (a b : Nat) : Nat → Nat → Nat := fun a' b' => if a' < a ∨ (a' = a ∧ b' < b) then nx m d a' b' else d a' b'
def C8 (w : Mem) (d : Nat → Nat → Nat) : Prop := ∀ a b, a < 8 → b < 8 → w 7 (8 + 8 * a + b) = n32 (d a b)
def C7 (m2 : Mem) (d : Nat → Nat → Nat) : Prop := ∀ a b, a < 8 → b < 8 → m2 11 (a * 8 + b) = n32 (farC (d a b))
def PF8 (s i : Nat) : Prop := s = 7 ∧ 8 ≤ i ∧ i < 72
def PF7 (s _i : Nat) : Prop := s = 11
section FW
variable {m : Nat} {d : Nat → Nat → Nat}
theorem nx_col (hd : Gd d) (hm : m < 8) (a : Nat) : nx m d a m = d a m := by
  unfold nx
  rw [hd.2 m hm, if_neg (by omega)]
theorem nx_row (hd : Gd d) (hm : m < 8) (b : Nat) : nx m d m b = d m b := by
  unfold nx
  rw [hd.2 m hm, if_neg (by omega)]
theorem cur_col (hd : Gd d) (hm : m < 8) (a b x : Nat) : cur m d a b x m = d x m := by
  unfold cur
  split
  · exact nx_col hd hm x
  · rfl
theorem cur_row (hd : Gd d) (hm : m < 8) (a b x : Nat) : cur m d a b m x = d m x := by
  unfold cur
  split
  · exact nx_row hd hm x
  · rfl
theorem cur_at (a b : Nat) : cur m d a b a b = d a b := by
  unfold cur
  rw [if_neg (by omega)]
theorem cur_set (a b a' b' : Nat) : cur m d a (b + 1) a' b' = if a' = a ∧ b' = b then nx m d a b else cur m d a b a' b' := by
  unfold cur
  by_cases z : a' = a ∧ b' = b
  · rw [if_pos z, if_pos (by omega), z.1, z.2]
  · rw [if_neg z]
    by_cases q : a' < a ∨ (a' = a ∧ b' < b)
    · rw [if_pos q, if_pos (by omega)]
    · rw [if_neg q, if_neg (by omega)]
theorem cur_next {a a' b' : Nat} (hb : b' < 8) : cur m d a 8 a' b' = cur m d (a + 1) 0 a' b' := by
  unfold cur
  by_cases q : a' < a ∨ (a' = a ∧ b' < 8)
  · rw [if_pos q, if_pos (by omega)]
  · rw [if_neg q, if_neg (by omega)]
theorem farC_min {x y z : Nat} (hx : x ≤ 900 ∨ x = 10000) (hy : y ≤ 900 ∨ y = 10000) (hz : z ≤ 900 ∨ z = 10000) : (if farC y + farC z < farC x then farC y + farC z else farC x) = farC (if y + z < x then y + z else x) := by
  unfold farC
  repeat' split
  all_goals omega
theorem farC_le (x : Nat) (h : x ≤ 900 ∨ x = 10000) : farC x ≤ 1000000 := by unfold farC; split <;> omega
theorem fw_in8 (hd : Gd d) (hm : m < 8) {a : Nat} (ha : a < 8) (w : Mem) (hc : C8 w (cur m d a 0)) : ∃ w', (∀ K, f_X8_layFar_L18 K (n32 m) (n32 a) 100000 (n32 0) w = K (n32 8) w') ∧ Fr PF8 w w' ∧ C8 w' (cur m d (a + 1) 0) := by
  obtain ⟨s, ⟨i1, i3⟩, i2⟩ := loop_k (S := Mem) (fun K t u s => f_X8_layFar_L18 K (n32 m) (n32 a) t u s) 8 (fun b r => Fr PF8 w r ∧ C8 r (cur m d a b)) (fun K t s _ => by
      refine Eq.trans (f_X8_layFar_L18.eq_2 _ _ _ _ _ _) ?_
      simp (disch := omega) only [n32_lit, n32_add, n32_mul, n32_lt, n32_le, n32_eq, n32_nat, n32_inb, gd_dec, gd_one, nm_eq, jn_eq, Option.bind_some, Nat.reduceAdd, Nat.reduceMul, Nat.reduceSub, Nat.reduceLT, Nat.reduceLeDiff, Nat.reduceEqDiff, ↓reduceIte, decide_true, decide_false, and_true, true_and, and_false, false_and, or_false, false_or, or_true, true_or, not_true_eq_false, not_false_eq_true, eq_self, Nat.zero_add, Nat.add_zero, Nat.mul_zero, Nat.mul_one, Nat.zero_le, Nat.not_lt_zero, bind_sm, bind_sm2, Nat.le_refl]) (fun b s hb hI => by
      obtain ⟨h1, h2⟩ := hI
      have x1 := h2 a m ha hm
      have x2 := h2 m b hm hb
      have x3 := h2 a b ha hb
      rw [cur_col hd hm] at x1
      rw [cur_row hd hm] at x2
      rw [cur_at] at x3
      have g1 := hd.1 a m ha hm
      have g2 := hd.1 m b hm hb
      have g3 := hd.1 a b ha hb
      refine ⟨up s 7 (8 + 8 * a + b) (n32 (nx m d a b)), ⟨h1.up 7 _ _ ⟨rfl, by omega, by omega⟩, fun a' b' ha' hb' => ?_⟩, fun K t => ?_⟩
      · rw [cur_set]
        by_cases z : a' = a ∧ b' = b
        · rw [if_pos z, z.1, z.2, up_at]
        · rw [if_neg z, up_mi (by omega)]; exact h2 a' b' ha' hb'
      · refine Eq.trans (f_X8_layFar_L18.eq_2 _ _ _ _ _ _) ?_
        unfold nx
        by_cases q : d a m + d m b < d a b
        · rw [if_pos q]
          simp (disch := omega) only [n32_lit, n32_add, n32_mul, n32_lt, n32_le, n32_eq, n32_nat, n32_inb, gd_dec, gd_one, nm_eq, jn_eq, Option.bind_some, Nat.reduceAdd, Nat.reduceMul, Nat.reduceSub, Nat.reduceLT, Nat.reduceLeDiff, Nat.reduceEqDiff, ↓reduceIte, decide_true, decide_false, and_true, true_and, and_false, false_and, or_false, false_or, or_true, true_or, not_true_eq_false, not_false_eq_true, eq_self, Nat.zero_add, Nat.add_zero, Nat.mul_zero, Nat.mul_one, Nat.zero_le, Nat.not_lt_zero, bind_sm, bind_sm2, show ¬ 8 ≤ b by omega, show 8 + 8 * a + m < 109 by omega, show 8 + 8 * m + b < 109 by omega, show 8 + 8 * a + b < 109 by omega, x1, x2, x3, show ¬ d a b ≤ d a m + d m b by omega]
        · rw [if_neg q]
          simp (disch := omega) only [n32_lit, n32_add, n32_mul, n32_lt, n32_le, n32_eq, n32_nat, n32_inb, gd_dec, gd_one, nm_eq, jn_eq, Option.bind_some, Nat.reduceAdd, Nat.reduceMul, Nat.reduceSub, Nat.reduceLT, Nat.reduceLeDiff, Nat.reduceEqDiff, ↓reduceIte, decide_true, decide_false, and_true, true_and, and_false, false_and, or_false, false_or, or_true, true_or, not_true_eq_false, not_false_eq_true, eq_self, Nat.zero_add, Nat.add_zero, Nat.mul_zero, Nat.mul_one, Nat.zero_le, Nat.not_lt_zero, bind_sm, bind_sm2, show ¬ 8 ≤ b by omega, show 8 + 8 * a + m < 109 by omega, show 8 + 8 * m + b < 109 by omega, show 8 + 8 * a + b < 109 by omega, x1, x2, x3, show d a b ≤ d a m + d m b by omega]) 8 0 w 100000 (by omega) (by omega) ⟨Fr.refl, hc⟩
  refine ⟨s, i2, i1, fun a' b' ha' hb' => ?_⟩
  rw [← cur_next hb']; exact i3 a' b' ha' hb'
theorem fw_mid8 (hd : Gd d) (hm : m < 8) (w : Mem) (hc : C8 w d) : ∃ w', (∀ K, f_X8_layFar_L10 K (n32 m) 100000 (n32 0) w = K (n32 8) w') ∧ Fr PF8 w w' ∧ C8 w' (nx m d) := by
  obtain ⟨s, ⟨i1, i3⟩, i2⟩ := loop_k (S := Mem) (fun K t u s => f_X8_layFar_L10 K (n32 m) t u s) 8 (fun a r => Fr PF8 w r ∧ C8 r (cur m d a 0)) (fun K t s _ => by
      refine Eq.trans (f_X8_layFar_L10.eq_2 _ _ _ _ _) ?_
      simp (disch := omega) only [n32_lit, n32_add, n32_mul, n32_lt, n32_le, n32_eq, n32_nat, n32_inb, gd_dec, gd_one, nm_eq, jn_eq, Option.bind_some, Nat.reduceAdd, Nat.reduceMul, Nat.reduceSub, Nat.reduceLT, Nat.reduceLeDiff, Nat.reduceEqDiff, ↓reduceIte, decide_true, decide_false, and_true, true_and, and_false, false_and, or_false, false_or, or_true, true_or, not_true_eq_false, not_false_eq_true, eq_self, Nat.zero_add, Nat.add_zero, Nat.mul_zero, Nat.mul_one, Nat.zero_le, Nat.not_lt_zero, bind_sm, bind_sm2, Nat.le_refl]) (fun a s ha hI => by
      obtain ⟨h1, h2⟩ := hI
      obtain ⟨w', e1, e2, e3⟩ := fw_in8 hd hm ha s h2
      refine ⟨w', ⟨h1.trans e2, e3⟩, fun K t => ?_⟩
      refine Eq.trans (f_X8_layFar_L10.eq_2 _ _ _ _ _) ?_
      simp (maxSteps := 400000) (disch := omega) only [n32_lit, n32_add, n32_mul, n32_lt, n32_le, n32_eq, n32_nat, n32_inb, gd_dec, gdE, ↓nmE, ↓jnE, ↓bsE, Nat.reduceAdd, Nat.reduceMul, Nat.reduceSub, Nat.reduceLT, Nat.reduceLeDiff, Nat.reduceEqDiff, ↓reduceIte, decide_true, decide_false, and_true, true_and, and_false, false_and, or_false, false_or, or_true, true_or, not_true_eq_false, not_false_eq_true, eq_self, Nat.zero_add, Nat.add_zero, Nat.mul_zero, Nat.mul_one, Nat.zero_le, Nat.not_lt_zero, bind_sm, bind_sm2, show ¬ 8 ≤ a by omega, e1]) 8 0 w 100000 (by omega) (by omega) ⟨Fr.refl, fun a b ha hb => by unfold cur; rw [if_neg (by omega)]; exact hc a b ha hb⟩
  refine ⟨s, i2, i1, fun a b ha hb => ?_⟩
  have := i3 a b ha hb
  unfold cur at this
  rw [if_pos (by omega)] at this
  exact this
theorem fw_in7 (hd : Gd d) (hm : m < 8) {a : Nat} (ha : a < 8) (w : Mem) (hc : C7 w (cur m d a 0)) : ∃ w', (∀ K, f_X3_finish_L18 K (n32 m) (n32 a) 100000 (n32 0) w = K (n32 8) w') ∧ Fr PF7 w w' ∧ C7 w' (cur m d (a + 1) 0) := by
  obtain ⟨s, ⟨i1, i3⟩, i2⟩ := loop_k (S := Mem) (fun K t u s => f_X3_finish_L18 K (n32 m) (n32 a) t u s) 8 (fun b r => Fr PF7 w r ∧ C7 r (cur m d a b)) (fun K t s _ => by
      refine Eq.trans (f_X3_finish_L18.eq_2 _ _ _ _ _ _) ?_
      simp (disch := omega) only [n32_lit, n32_add, n32_mul, n32_lt, n32_le, n32_eq, n32_nat, n32_inb, gd_dec, gd_one, nm_eq, jn_eq, Option.bind_some, Nat.reduceAdd, Nat.reduceMul, Nat.reduceSub, Nat.reduceLT, Nat.reduceLeDiff, Nat.reduceEqDiff, ↓reduceIte, decide_true, decide_false, and_true, true_and, and_false, false_and, or_false, false_or, or_true, true_or, not_true_eq_false, not_false_eq_true, eq_self, Nat.zero_add, Nat.add_zero, Nat.mul_zero, Nat.mul_one, Nat.zero_le, Nat.not_lt_zero, bind_sm, bind_sm2, Nat.le_refl]) (fun b s hb hI => by
      obtain ⟨h1, h2⟩ := hI
      have x1 := h2 a m ha hm
      have x2 := h2 m b hm hb
      have x3 := h2 a b ha hb
      rw [cur_col hd hm] at x1
      rw [cur_row hd hm] at x2
      rw [cur_at] at x3
      have g1 := hd.1 a m ha hm
      have g2 := hd.1 m b hm hb
      have g3 := hd.1 a b ha hb
      have l1 := farC_le _ g1
      have l2 := farC_le _ g2
      have l3 := farC_le _ g3
      have mn := farC_min g3 g1 g2
      refine ⟨up s 11 (a * 8 + b) (n32 (farC (nx m d a b))), ⟨h1.up 11 _ _ rfl, fun a' b' ha' hb' => ?_⟩, fun K t => ?_⟩
      · rw [cur_set]
        by_cases z : a' = a ∧ b' = b
        · rw [if_pos z, z.1, z.2, up_at]
        · rw [if_neg z, up_mi (by omega)]; exact h2 a' b' ha' hb'
      · refine Eq.trans (f_X3_finish_L18.eq_2 _ _ _ _ _ _) ?_
        unfold nx
        rw [← mn]
        unfold f_X3_minutesBetween
        simp (disch := omega) only [n32_lit, n32_add, n32_mul, n32_lt, n32_le, n32_eq, n32_nat, n32_inb, gd_dec, gd_one, nm_eq, jn_eq, Option.bind_some, Nat.reduceAdd, Nat.reduceMul, Nat.reduceSub, Nat.reduceLT, Nat.reduceLeDiff, Nat.reduceEqDiff, ↓reduceIte, decide_true, decide_false, and_true, true_and, and_false, false_and, or_false, false_or, or_true, true_or, not_true_eq_false, not_false_eq_true, eq_self, Nat.zero_add, Nat.add_zero, Nat.mul_zero, Nat.mul_one, Nat.zero_le, Nat.not_lt_zero, bind_sm, bind_sm2, show ¬ 8 ≤ b by omega, show a * 8 + m < 64 by omega, show m * 8 + b < 64 by omega, show a * 8 + b < 64 by omega, x1, x2, x3]
        by_cases q : farC (d a m) + farC (d m b) < farC (d a b)
        · simp only [q, ↓reduceIte]
        · simp only [q, ↓reduceIte]) 8 0 w 100000 (by omega) (by omega) ⟨Fr.refl, hc⟩
  refine ⟨s, i2, i1, fun a' b' ha' hb' => ?_⟩
  rw [← cur_next hb']; exact i3 a' b' ha' hb'
theorem fw_mid7 (hd : Gd d) (hm : m < 8) (w : Mem) (hc : C7 w d) : ∃ w', (∀ K, f_X3_finish_L10 K (n32 m) 100000 (n32 0) w = K (n32 8) w') ∧ Fr PF7 w w' ∧ C7 w' (nx m d) := by
  obtain ⟨s, ⟨i1, i3⟩, i2⟩ := loop_k (S := Mem) (fun K t u s => f_X3_finish_L10 K (n32 m) t u s) 8 (fun a r => Fr PF7 w r ∧ C7 r (cur m d a 0)) (fun K t s _ => by
      refine Eq.trans (f_X3_finish_L10.eq_2 _ _ _ _ _) ?_
      simp (disch := omega) only [n32_lit, n32_add, n32_mul, n32_lt, n32_le, n32_eq, n32_nat, n32_inb, gd_dec, gd_one, nm_eq, jn_eq, Option.bind_some, Nat.reduceAdd, Nat.reduceMul, Nat.reduceSub, Nat.reduceLT, Nat.reduceLeDiff, Nat.reduceEqDiff, ↓reduceIte, decide_true, decide_false, and_true, true_and, and_false, false_and, or_false, false_or, or_true, true_or, not_true_eq_false, not_false_eq_true, eq_self, Nat.zero_add, Nat.add_zero, Nat.mul_zero, Nat.mul_one, Nat.zero_le, Nat.not_lt_zero, bind_sm, bind_sm2, Nat.le_refl]) (fun a s ha hI => by
      obtain ⟨h1, h2⟩ := hI
      obtain ⟨w', e1, e2, e3⟩ := fw_in7 hd hm ha s h2
      refine ⟨w', ⟨h1.trans e2, e3⟩, fun K t => ?_⟩
      refine Eq.trans (f_X3_finish_L10.eq_2 _ _ _ _ _) ?_
      simp (maxSteps := 400000) (disch := omega) only [n32_lit, n32_add, n32_mul, n32_lt, n32_le, n32_eq, n32_nat, n32_inb, gd_dec, gdE, ↓nmE, ↓jnE, ↓bsE, Nat.reduceAdd, Nat.reduceMul, Nat.reduceSub, Nat.reduceLT, Nat.reduceLeDiff, Nat.reduceEqDiff, ↓reduceIte, decide_true, decide_false, and_true, true_and, and_false, false_and, or_false, false_or, or_true, true_or, not_true_eq_false, not_false_eq_true, eq_self, Nat.zero_add, Nat.add_zero, Nat.mul_zero, Nat.mul_one, Nat.zero_le, Nat.not_lt_zero, bind_sm, bind_sm2, show ¬ 8 ≤ a by omega, e1]) 8 0 w 100000 (by omega) (by omega) ⟨Fr.refl, fun a b ha hb => by unfold cur; rw [if_neg (by omega)]; exact hc a b ha hb⟩
  refine ⟨s, i2, i1, fun a b ha hb => ?_⟩
  have := i3 a b ha hb
  unfold cur at this
  rw [if_pos (by omega)] at this
  exact this
/-! how long a way can be -/
def cd (S : Nat → Bool) : Nat := fsm (fun x => (S x).toNat) 8
theorem cd_le (S : Nat → Bool) : cd S ≤ 8 := by
  have := fsm_up (f := fun x => (S x).toNat) (b := 1) 8 (fun q _ => by cases S q <;> decide)
  unfold cd; omega
theorem cd_add {S1 S2 : Nat → Bool} {x : Nat} (hx : x < 8) (h1 : S1 x = false) (h2 : S2 x = false) (hd : ∀ y, y < 8 → ¬ (S1 y = true ∧ S2 y = true)) : cd (fun y => S1 y || S2 y || decide (y = x)) = cd S1 + cd S2 + 1 := by
  have key : ∀ n, n ≤ 8 → fsm (fun y => (S1 y || S2 y || decide (y = x)).toNat) n = fsm (fun y => (S1 y).toNat) n + fsm (fun y => (S2 y).toNat) n + (if x < n then 1 else 0) := by
    intro n
    induction n with
    | zero => intro _; unfold fsm; rw [if_neg (by omega)]
    | succ n ih =>
      intro hn
      unfold fsm
      rw [ih (by omega)]
      by_cases z : n = x
      · subst z
        rw [h1, h2, if_neg (by omega), if_pos (by omega)]
        simp
      · have e : decide (n = x) = false := decide_eq_false z
        have d1 := hd n (by omega)
        rw [e]
        have : (if x < n then 1 else 0) = (if x < n + 1 then 1 else 0) := by
          by_cases q : x < n
          · rw [if_pos q, if_pos (by omega)]
          · rw [if_neg q, if_neg (by omega)]
        rw [this]
        cases c1 : S1 n <;> cases c2 : S2 n <;> simp_all <;> omega
  have := key 8 (by omega)
  rw [if_pos hx] at this
  exact this
def FI (m : Nat) (d : Nat → Nat → Nat) : Prop :=
  (∀ a, a < 8 → d a a = 0) ∧
  (∀ a b, a < 8 → b < 8 → d a b = 10000 ∨ (d a b < 10000 ∧ ∃ S : Nat → Bool, d a b ≤ 99 * (cd S + 1) ∧ ∀ x, x < 8 → S x = true → x < m ∧ d a x < 10000 ∧ d x b < 10000)) ∧
  (∀ a b x, a < 8 → b < 8 → x < m → x < 8 → d a x < 10000 → d x b < 10000 → d a b < 10000) ∧
  (∀ a b, a < 8 → b < 8 → d a b < 10000 → d b a < 10000)
theorem fi_gd (h : FI m d) : Gd d := by
  refine ⟨fun a b ha hb => ?_, h.1⟩
  rcases h.2.1 a b ha hb with q | ⟨q, S, s1, -⟩
  · exact Or.inr q
  · have := cd_le S; omega
theorem fi_step (h : FI m d) (hm : m < 8) : FI (m + 1) (nx m d) := by
  have hg := fi_gd h
  obtain ⟨h1, h2, h3, h4⟩ := h
  have fin : ∀ a b, a < 8 → b < 8 → (nx m d a b < 10000 ↔ (d a b < 10000 ∨ (d a m < 10000 ∧ d m b < 10000))) := by
    intro a b ha hb
    have g1 := hg.1 a m ha hm
    have g2 := hg.1 m b hm hb
    have g3 := hg.1 a b ha hb
    unfold nx
    split <;> omega
  refine ⟨?_, ?_, ?_, ?_⟩
  · intro a ha
    unfold nx
    rw [h1 a ha, if_neg (by omega)]
  · intro a b ha hb
    by_cases f : nx m d a b < 10000
    · right
      refine ⟨f, ?_⟩
      by_cases q : d a b < 10000
      · rcases h2 a b ha hb with z | ⟨-, S, s1, s2⟩
        · omega
        · refine ⟨S, ?_, fun x hx hs => ?_⟩
          · have : nx m d a b ≤ d a b := by unfold nx; split <;> omega
            omega
          · obtain ⟨t1, t2, t3⟩ := s2 x hx hs
            exact ⟨by omega, (fin a x ha hx).mpr (Or.inl t2), (fin x b hx hb).mpr (Or.inl t3)⟩
      · obtain ⟨f1, f2⟩ := ((fin a b ha hb).mp f).resolve_left q
        rcases h2 a m ha hm with z | ⟨-, S1, s1, s2⟩
        · omega
        rcases h2 m b hm hb with z | ⟨-, S2, t1, t2⟩
        · omega
        have m1 : S1 m = false := by
          cases c : S1 m
          · rfl
          · have := (s2 m hm c).1; omega
        have m2 : S2 m = false := by
          cases c : S2 m
          · rfl
          · have := (t2 m hm c).1; omega
        refine ⟨fun y => S1 y || S2 y || decide (y = m), ?_, fun x hx hs => ?_⟩
        · rw [cd_add hm m1 m2 (fun y hy c => ?_)]
          · have : nx m d a b ≤ d a m + d m b := by unfold nx; split <;> omega
            omega
          · obtain ⟨p1, p2, p3⟩ := s2 y hy c.1
            obtain ⟨r1, r2, r3⟩ := t2 y hy c.2
            exact q (h3 a b y ha hb p1 hy p2 r3)
        · by_cases z : x = m
          · subst z
            exact ⟨by omega, (fin a x ha hx).mpr (Or.inl f1), (fin x b hx hb).mpr (Or.inl f2)⟩
          · have e : decide (x = m) = false := decide_eq_false z
            have hs : (S1 x || S2 x || decide (x = m)) = true := hs
            rw [e, Bool.or_false] at hs
            cases c1 : S1 x with
            | true =>
              obtain ⟨p1, p2, p3⟩ := s2 x hx c1
              exact ⟨by omega, (fin a x ha hx).mpr (Or.inl p2), (fin x b hx hb).mpr (Or.inr ⟨p3, f2⟩)⟩
            | false =>
              rw [c1, Bool.false_or] at hs
              obtain ⟨p1, p2, p3⟩ := t2 x hx hs
              exact ⟨by omega, (fin a x ha hx).mpr (Or.inr ⟨f1, p2⟩), (fin x b hx hb).mpr (Or.inl p3)⟩
    · left
      have g1 := hg.1 a m ha hm
      have g2 := hg.1 m b hm hb
      have g3 := hg.1 a b ha hb
      unfold nx at f ⊢
      split at f <;> split <;> omega
  · intro a b x ha hb hx1 hx p1 p2
    rw [fin a x ha hx] at p1
    rw [fin x b hx hb] at p2
    rw [fin a b ha hb]
    by_cases z : x = m
    · subst z
      have q1 : d a x < 10000 := by rcases p1 with p | p; exact p; exact p.1
      have q2 : d x b < 10000 := by rcases p2 with p | p; exact p; exact p.2
      exact Or.inr ⟨q1, q2⟩
    · have hxm : x < m := by omega
      rcases p1 with p1 | ⟨p1, p1'⟩
      · rcases p2 with p2 | ⟨p2, p2'⟩
        · exact Or.inl (h3 a b x ha hb hxm hx p1 p2)
        · exact Or.inr ⟨h3 a m x ha hm hxm hx p1 p2, p2'⟩
      · rcases p2 with p2 | ⟨p2, p2'⟩
        · exact Or.inr ⟨p1, h3 m b x hm hb hxm hx p1' p2⟩
        · exact Or.inr ⟨p1, p2'⟩
  · intro a b ha hb p
    rw [fin a b ha hb] at p
    rw [fin b a hb ha]
    rcases p with p | ⟨p, p'⟩
    · exact Or.inl (h4 a b ha hb p)
    · exact Or.inr ⟨h4 m b hm hb p', h4 a m ha hm p⟩
end FW
