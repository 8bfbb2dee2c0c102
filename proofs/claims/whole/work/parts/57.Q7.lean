/-! image, restore -/
def CpF (a b : Nat → Int32) (n : Nat) : Prop := ∀ i, i < n → b i = a i
theorem cp_at {f g : Nat → Int32} {n : Nat} {i : Nat} (h : i < n) : va_cpy f g 0 0 n i = f i := by
  unfold va_cpy; rw [if_pos (by omega), show 0 + (i - 0) = i by omega]
theorem cp00 {n : Nat} (h : n < 2147483648) : cpok (n32 0) (n32 0) (n32 n) n n = true := cpok_n (by omega) (by omega) h (by omega) (by omega)
/-- an evening is taken from another one -/
theorem t_takeFrom {m m' : Mem} (h : m' 0 0 = n32 0 ∨ m' 0 0 = n32 1) : ∃ r, f_X3_takeFrom m m' = some r ∧ (∀ i, i < 10 → r 0 i = m' 0 i) ∧ (∀ i, i < 64 → r 11 i = m' 11 i) ∧ (∀ s, 12 ≤ s → s ≤ 15 → ∀ i, i < 7 → r s i = m' s i) ∧ (∀ s, 16 ≤ s → s ≤ 18 → ∀ i, i < 3 → r s i = m' s i) := by
  unfold f_X3_takeFrom
  have c64 : cpok 0 0 64 64 64 = true := cp00 (n := 64) (by decide)
  have c7 : cpok 0 0 7 7 7 = true := cp00 (n := 7) (by decide)
  have c3 : cpok 0 0 3 3 3 = true := cp00 (n := 3) (by decide)
  have k0 : (0 : Int32).toNatClampNeg = 0 := n32_nat (by decide)
  have k64 : (64 : Int32).toNatClampNeg = 64 := n32_nat (by decide)
  have k7 : (7 : Int32).toNatClampNeg = 7 := n32_nat (by decide)
  have k3 : (3 : Int32).toNatClampNeg = 3 := n32_nat (by decide)
  have h' : m' 0 0 = 0 ∨ m' 0 0 = 1 := h
  rw [gd_t' (decide_eq_true h')]
  simp only [c64, c7, c3, k0, k64, k7, k3, gd_one, nm_eq]
  refine ⟨_, rfl, ?_, ?_, ?_, ?_⟩
  · intro i hi
    rcases (show i = 0 ∨ i = 1 ∨ i = 2 ∨ i = 3 ∨ i = 4 ∨ i = 5 ∨ i = 6 ∨ i = 7 ∨ i = 8 ∨ i = 9 by omega) with rfl | rfl | rfl | rfl | rfl | rfl | rfl | rfl | rfl | rfl <;> simp (disch := omega) only [up_at, up_ms, up_mi, upA_at, upA_ms]
  · intro i hi
    simp (disch := omega) only [up_at, up_ms, up_mi, upA_at, upA_ms, cp_at hi]
  · intro s h1 h2 i hi
    rcases (show s = 12 ∨ s = 13 ∨ s = 14 ∨ s = 15 by omega) with rfl | rfl | rfl | rfl
    · simp (disch := omega) only [up_at, up_ms, up_mi, upA_at, upA_ms, cp_at hi]
    · simp (disch := omega) only [up_at, up_ms, up_mi, upA_at, upA_ms, cp_at hi]
    · simp (disch := omega) only [up_at, up_ms, up_mi, upA_at, upA_ms, cp_at hi]
    · simp (disch := omega) only [up_at, up_ms, up_mi, upA_at, upA_ms, cp_at hi]
  · intro s h1 h2 i hi
    rcases (show s = 16 ∨ s = 17 ∨ s = 18 by omega) with rfl | rfl | rfl
    · simp (disch := omega) only [up_at, up_ms, up_mi, upA_at, upA_ms, cp_at hi]
    · simp (disch := omega) only [up_at, up_ms, up_mi, upA_at, upA_ms, cp_at hi]
    · simp (disch := omega) only [up_at, up_ms, up_mi, upA_at, upA_ms, cp_at hi]
theorem cl_take {m r : Mem} {v : Nat → Nat} (h : Cl m v) (hv : Vd v) (h0 : ∀ i, i < 10 → r 0 i = m 0 i) (h11 : ∀ i, i < 64 → r 11 i = m 11 i) (h7 : ∀ s, 12 ≤ s → s ≤ 15 → ∀ i, i < 7 → r s i = m s i) (h3 : ∀ s, 16 ≤ s → s ≤ 18 → ∀ i, i < 3 → r s i = m s i) : Cl r v := by
  obtain ⟨⟨v4, v5, -⟩, -⟩ := hv
  obtain ⟨⟨c1, c2, c3, c4, c5, c6, ⟨s, s1, s2, s3⟩, c8, c9⟩, cF⟩ := h
  refine ⟨⟨?_, ?_, ?_, ?_, ?_, ?_, ⟨s, s1, ?_, s3⟩, ?_, ?_⟩, ?_⟩
  · rw [h0 _ (by omega)]; exact c1
  · rw [h0 _ (by omega)]; exact c2
  · rw [h0 _ (by omega)]; exact c3
  · rw [h0 _ (by omega)]; exact c4
  · rw [h0 _ (by omega)]; exact c5
  · rw [h0 _ (by omega)]; exact c6
  · rw [h0 _ (by omega)]; exact s2
  · intro q hq
    rw [h7 12 (by omega) (by omega) q (by omega), h7 13 (by omega) (by omega) q (by omega), h7 14 (by omega) (by omega) q (by omega), h7 15 (by omega) (by omega) q (by omega)]
    exact c8 q hq
  · intro c hc
    rw [h3 16 (by omega) (by omega) c (by omega), h3 17 (by omega) (by omega) c (by omega), h3 18 (by omega) (by omega) c (by omega)]
    exact c9 c hc
  · intro i hi
    rw [h11 i hi]; exact cF i hi
theorem t_img_loop (w : Mem) {k : Nat} (hk : k < 2) : ∃ w', (∀ K, f_X8_image_L30 K (n32 k) 100000 (n32 0) w = K (n32 109) w') ∧ ∀ s j, w' s j = if s = 35 ∧ 109 * k ≤ j ∧ j < 109 * k + 109 then w 6 (j - 109 * k) else w s j := by
  have key : ∀ d i s t, i + d = 109 → d < t → (∀ s' j, s s' j = if s' = 35 ∧ 109 * k ≤ j ∧ j < 109 * k + i then w 6 (j - 109 * k) else w s' j) → ∃ w', (∀ K, f_X8_image_L30 K (n32 k) t (n32 i) s = K (n32 109) w') ∧ ∀ s j, w' s j = if s = 35 ∧ 109 * k ≤ j ∧ j < 109 * k + 109 then w 6 (j - 109 * k) else w s j := by
    intro d
    induction d with
    | zero =>
      intro i s t h1 h2 h3
      obtain ⟨t, rfl⟩ : ∃ u, t = u + 1 := ⟨t - 1, by omega⟩
      have : i = 109 := by omega
      subst this
      refine ⟨s, fun K => ?_, h3⟩
      rw [f_X8_image_L30.eq_2]
      simp (disch := omega) only [n32_lit, n32_add, n32_mul, n32_lt, n32_le, n32_eq, n32_nat, n32_inb, gd_dec, gd_one, nm_eq, jn_eq, Option.bind_some, Nat.reduceAdd, Nat.reduceMul, Nat.reduceSub, Nat.reduceLT, Nat.reduceLeDiff, Nat.reduceEqDiff, ↓reduceIte, decide_true, decide_false, and_true, true_and, and_false, false_and, or_false, false_or, or_true, true_or, not_true_eq_false, not_false_eq_true, eq_self, Nat.zero_add, Nat.add_zero, Nat.mul_zero, Nat.mul_one, Nat.zero_le, Nat.not_lt_zero, bind_sm, bind_sm2]
    | succ d ih =>
      intro i s t h1 h2 h3
      obtain ⟨t, rfl⟩ : ∃ u, t = u + 1 := ⟨t - 1, by omega⟩
      have hnew : ∀ s' j, (up s 35 (109 * k + i) (w 6 i)) s' j = if s' = 35 ∧ 109 * k ≤ j ∧ j < 109 * k + (i + 1) then w 6 (j - 109 * k) else w s' j := by
        intro s' j
        rw [up_ap, h3]
        by_cases z1 : s' = 35
        · by_cases z2 : j = 109 * k + i
          · rw [if_pos ⟨z1, z2⟩, if_pos (by omega), z2, show 109 * k + i - 109 * k = i by omega]
          · rw [if_neg (by omega)]
            by_cases z3 : 109 * k ≤ j ∧ j < 109 * k + i
            · rw [if_pos ⟨z1, z3⟩, if_pos (by omega)]
            · rw [if_neg (by omega), if_neg (by omega)]
        · rw [if_neg (by omega), if_neg (by omega), if_neg (by omega)]
      obtain ⟨w', j1, j2⟩ := ih (i + 1) _ t (by omega) (by omega) hnew
      refine ⟨w', fun K => ?_, j2⟩
      rw [f_X8_image_L30.eq_2, ← j1 K]
      have f6 := h3 6 i
      rw [if_neg (by omega)] at f6
      simp (disch := omega) only [n32_lit, n32_add, n32_mul, n32_lt, n32_le, n32_eq, n32_nat, n32_inb, gd_dec, gd_one, nm_eq, jn_eq, Option.bind_some, Nat.reduceAdd, Nat.reduceMul, Nat.reduceSub, Nat.reduceLT, Nat.reduceLeDiff, Nat.reduceEqDiff, ↓reduceIte, decide_true, decide_false, and_true, true_and, and_false, false_and, or_false, false_or, or_true, true_or, not_true_eq_false, not_false_eq_true, eq_self, Nat.zero_add, Nat.add_zero, Nat.mul_zero, Nat.mul_one, Nat.zero_le, Nat.not_lt_zero, bind_sm, bind_sm2, up_at, up_ms, up_mi, upA_at, upA_ms, show ¬ 109 ≤ i by omega, show i < 109 by omega, show 109 * k + i < 218 by omega, f6]
  exact key 109 0 w 100000 (by omega) (by omega) (fun s j => by rw [if_neg (by omega)])
theorem t_res_loop (w : Mem) {k : Nat} (hk : k < 2) : ∃ w', (∀ K, f_X8_restore_L32 K (n32 k) 100000 (n32 0) w = K (n32 109) w') ∧ ∀ s j, w' s j = if s = 6 ∧ j < 109 then w 35 (109 * k + j) else w s j := by
  have key : ∀ d i s t, i + d = 109 → d < t → (∀ s' j, s s' j = if s' = 6 ∧ j < i then w 35 (109 * k + j) else w s' j) → ∃ w', (∀ K, f_X8_restore_L32 K (n32 k) t (n32 i) s = K (n32 109) w') ∧ ∀ s j, w' s j = if s = 6 ∧ j < 109 then w 35 (109 * k + j) else w s j := by
    intro d
    induction d with
    | zero =>
      intro i s t h1 h2 h3
      obtain ⟨t, rfl⟩ : ∃ u, t = u + 1 := ⟨t - 1, by omega⟩
      have : i = 109 := by omega
      subst this
      refine ⟨s, fun K => ?_, h3⟩
      rw [f_X8_restore_L32.eq_2]
      simp (disch := omega) only [n32_lit, n32_add, n32_mul, n32_lt, n32_le, n32_eq, n32_nat, n32_inb, gd_dec, gd_one, nm_eq, jn_eq, Option.bind_some, Nat.reduceAdd, Nat.reduceMul, Nat.reduceSub, Nat.reduceLT, Nat.reduceLeDiff, Nat.reduceEqDiff, ↓reduceIte, decide_true, decide_false, and_true, true_and, and_false, false_and, or_false, false_or, or_true, true_or, not_true_eq_false, not_false_eq_true, eq_self, Nat.zero_add, Nat.add_zero, Nat.mul_zero, Nat.mul_one, Nat.zero_le, Nat.not_lt_zero, bind_sm, bind_sm2]
    | succ d ih =>
      intro i s t h1 h2 h3
      obtain ⟨t, rfl⟩ : ∃ u, t = u + 1 := ⟨t - 1, by omega⟩
      have hnew : ∀ s' j, (up s 6 i (w 35 (109 * k + i))) s' j = if s' = 6 ∧ j < i + 1 then w 35 (109 * k + j) else w s' j := by
        intro s' j
        rw [up_ap, h3]
        by_cases z1 : s' = 6
        · by_cases z2 : j = i
          · rw [if_pos ⟨z1, z2⟩, if_pos (by omega), z2]
          · rw [if_neg (by omega)]
            by_cases z3 : j < i
            · rw [if_pos ⟨z1, z3⟩, if_pos (by omega)]
            · rw [if_neg (by omega), if_neg (by omega)]
        · rw [if_neg (by omega), if_neg (by omega), if_neg (by omega)]
      obtain ⟨w', j1, j2⟩ := ih (i + 1) _ t (by omega) (by omega) hnew
      refine ⟨w', fun K => ?_, j2⟩
      rw [f_X8_restore_L32.eq_2, ← j1 K]
      have f6 := h3 35 (109 * k + i)
      rw [if_neg (by omega)] at f6
      simp (disch := omega) only [n32_lit, n32_add, n32_mul, n32_lt, n32_le, n32_eq, n32_nat, n32_inb, gd_dec, gd_one, nm_eq, jn_eq, Option.bind_some, Nat.reduceAdd, Nat.reduceMul, Nat.reduceSub, Nat.reduceLT, Nat.reduceLeDiff, Nat.reduceEqDiff, ↓reduceIte, decide_true, decide_false, and_true, true_and, and_false, false_and, or_false, false_or, or_true, true_or, not_true_eq_false, not_false_eq_true, eq_self, Nat.zero_add, Nat.add_zero, Nat.mul_zero, Nat.mul_one, Nat.zero_le, Nat.not_lt_zero, bind_sm, bind_sm2, up_at, up_ms, up_mi, upA_at, upA_ms, show ¬ 109 ≤ i by omega, show i < 109 by omega, show 109 * k + i < 218 by omega, f6]
  exact key 109 0 w 100000 (by omega) (by omega) (fun s j => by rw [if_neg (by omega)])
def PIm (s _i : Nat) : Prop := s = 34 ∨ s = 35
theorem s_image {m0 m1 m9 m10 : Mem} {v : Nat → Nat} (hE : REv ((up m0 0 0 0) 6) ((up m0 0 0 0) 0 7) m1 v) (hI : RIm ((up m0 0 0 0) 34) ((up m0 0 0 0) 35) m9 m10) (x : Int32) : ∃ (a : Int32) (m9' m10' w' : Mem), f_X7_image m1 m9 m10 x = some (a, m9', m10') ∧ f_X8_image m0 x = some (a, w') ∧ Fr PIm (up m0 0 0 0) w' ∧ RIm (w' 34) (w' 35) m9' m10' ∧ (w' = up m0 0 0 0 ∨ (up m0 0 0 0) 0 7 = n32 1) := by
  unfold f_X7_image f_X8_image
  rw [nm_eq (up m0 0 0 0)]
  generalize hw : up m0 0 0 0 = w at *
  obtain ⟨h1, hv, hc, ht, ht2⟩ := hE
  rcases tri x (k := 1) (by decide) with ⟨k, hk, rfl⟩ | q
  · rw [in_yes (b := 1) (k := 1) rfl hk (by decide), ht]
    rcases ht2 with t0 | t0
    · simp (maxSteps := 400000) (disch := omega) only [n32_lit, n32_add, n32_mul, n32_lt, n32_le, n32_eq, n32_nat, n32_inb, gd_dec, gdE, ↓nmE, ↓jnE, ↓bsE, Nat.reduceAdd, Nat.reduceMul, Nat.reduceSub, Nat.reduceLT, Nat.reduceLeDiff, Nat.reduceEqDiff, ↓reduceIte, decide_true, decide_false, and_true, true_and, and_false, false_and, or_false, false_or, or_true, true_or, not_true_eq_false, not_false_eq_true, eq_self, Nat.zero_add, Nat.add_zero, Nat.mul_zero, Nat.mul_one, Nat.zero_le, Nat.not_lt_zero, bind_sm, bind_sm2, t0, show k < 2 by omega]
      exact ⟨_, _, _, _, rfl, rfl, Fr.refl, hI, rfl⟩
    · obtain ⟨w', f1, f2⟩ := t_img_loop w (k := k) (by omega)
      have vn : vp_nar .boolean (n32 1) = n32 1 := by decide
      have fr : Fr PIm w (up w' 34 k (n32 1)) := by
        refine Fr.up ?_ 34 k _ (Or.inl rfl)
        intro s i hn
        unfold PIm at hn
        rw [f2, if_neg (by omega)]
      rcases (show k = 0 ∨ k = 1 by omega) with rfl | rfl
      · obtain ⟨r, g1, g2, g3, g4, g5⟩ := t_takeFrom (m := m9) (m' := m1) (by rw [ht]; exact Or.inr t0)
        simp (maxSteps := 400000) (disch := omega) only [n32_lit, n32_add, n32_mul, n32_lt, n32_le, n32_eq, n32_nat, n32_inb, gd_dec, gdE, ↓nmE, ↓jnE, ↓bsE, Nat.reduceAdd, Nat.reduceMul, Nat.reduceSub, Nat.reduceLT, Nat.reduceLeDiff, Nat.reduceEqDiff, ↓reduceIte, decide_true, decide_false, and_true, true_and, and_false, false_and, or_false, false_or, or_true, true_or, not_true_eq_false, not_false_eq_true, eq_self, Nat.zero_add, Nat.add_zero, Nat.mul_zero, Nat.mul_one, Nat.zero_le, Nat.not_lt_zero, bind_sm, bind_sm2, t0, f1, vn, g1]
        refine ⟨_, _, _, _, rfl, rfl, fr, ?_, ?_⟩
        · refine ⟨?_, Or.inr ⟨?_, v, ?_, hv, cl_take hc hv g2 g3 g4 g5⟩⟩
          · simp (disch := omega) only [up_at, up_ms, up_mi, upA_at, upA_ms, g2 0 (by omega), ht, t0]
          · simp (disch := omega) only [up_at, up_ms, up_mi, upA_at, upA_ms]
          · intro i hi
            have := f2 35 i
            rw [if_pos (by omega)] at this
            show (up w' 34 0 (n32 1)) 35 (109 * 0 + i) = _
            rw [up_ms (by omega), show 109 * 0 + i = i by omega, this, show i - 109 * 0 = i by omega]
            exact h1 i hi
        · obtain ⟨-, j1, j2⟩ := hI
          have e35 : ∀ i, i < 109 → (up w' 34 0 (n32 1)) 35 (109 * 1 + i) = w 35 (109 * 1 + i) := by
            intro i hi
            rw [up_ms (by omega), f2, if_neg (by omega)]
          have e34 : (up w' 34 0 (n32 1)) 34 1 = w 34 1 := by rw [up_mi (by omega), f2, if_neg (by omega)]
          refine ⟨by rw [e34]; exact j1, ?_⟩
          rw [e34]
          rcases j2 with j2 | ⟨j2, v', j3, j4, j5⟩
          · exact Or.inl j2
          · refine Or.inr ⟨j2, v', ?_, j4, j5⟩
            intro i hi
            show (up w' 34 0 (n32 1)) 35 (109 * 1 + i) = _
            rw [e35 i hi]; exact j3 i hi
      · obtain ⟨r, g1, g2, g3, g4, g5⟩ := t_takeFrom (m := m10) (m' := m1) (by rw [ht]; exact Or.inr t0)
        simp (maxSteps := 400000) (disch := omega) only [n32_lit, n32_add, n32_mul, n32_lt, n32_le, n32_eq, n32_nat, n32_inb, gd_dec, gdE, ↓nmE, ↓jnE, ↓bsE, Nat.reduceAdd, Nat.reduceMul, Nat.reduceSub, Nat.reduceLT, Nat.reduceLeDiff, Nat.reduceEqDiff, ↓reduceIte, decide_true, decide_false, and_true, true_and, and_false, false_and, or_false, false_or, or_true, true_or, not_true_eq_false, not_false_eq_true, eq_self, Nat.zero_add, Nat.add_zero, Nat.mul_zero, Nat.mul_one, Nat.zero_le, Nat.not_lt_zero, bind_sm, bind_sm2, t0, f1, vn, g1]
        refine ⟨_, _, _, _, rfl, rfl, fr, ?_, ?_⟩
        · obtain ⟨⟨j1, j2⟩, -⟩ := hI
          have e35 : ∀ i, i < 109 → (up w' 34 1 (n32 1)) 35 (109 * 0 + i) = w 35 (109 * 0 + i) := by
            intro i hi
            rw [up_ms (by omega), f2, if_neg (by omega)]
          have e34 : (up w' 34 1 (n32 1)) 34 0 = w 34 0 := by rw [up_mi (by omega), f2, if_neg (by omega)]
          refine ⟨by rw [e34]; exact j1, ?_⟩
          rw [e34]
          rcases j2 with j2 | ⟨j2, v', j3, j4, j5⟩
          · exact Or.inl j2
          · refine Or.inr ⟨j2, v', ?_, j4, j5⟩
            intro i hi
            show (up w' 34 1 (n32 1)) 35 (109 * 0 + i) = _
            rw [e35 i hi]; exact j3 i hi
        · refine ⟨?_, Or.inr ⟨?_, v, ?_, hv, cl_take hc hv g2 g3 g4 g5⟩⟩
          · simp (disch := omega) only [up_at, up_ms, up_mi, upA_at, upA_ms, g2 0 (by omega), ht, t0]
          · simp (disch := omega) only [up_at, up_ms, up_mi, upA_at, upA_ms]
          · intro i hi
            have := f2 35 (109 + i)
            rw [if_pos (by omega)] at this
            show (up w' 34 1 (n32 1)) 35 (109 * 1 + i) = _
            rw [up_ms (by omega), show 109 * 1 + i = 109 + i by omega, this, show 109 + i - 109 * 1 = i by omega]
            exact h1 i hi
  · rw [in_no (b := 1) (k := 1) rfl (by decide) q]
    by_cases z0 : x < n32 0
    · simp (maxSteps := 400000) (disch := omega) only [n32_lit, n32_add, n32_mul, n32_lt, n32_le, n32_eq, n32_nat, n32_inb, gd_dec, gdE, ↓nmE, ↓jnE, ↓bsE, Nat.reduceAdd, Nat.reduceMul, Nat.reduceSub, Nat.reduceLT, Nat.reduceLeDiff, Nat.reduceEqDiff, ↓reduceIte, decide_true, decide_false, and_true, true_and, and_false, false_and, or_false, false_or, or_true, true_or, not_true_eq_false, not_false_eq_true, eq_self, Nat.zero_add, Nat.add_zero, Nat.mul_zero, Nat.mul_one, Nat.zero_le, Nat.not_lt_zero, bind_sm, bind_sm2, z0]
      exact ⟨_, _, _, _, rfl, rfl, Fr.refl, hI, Or.inl rfl⟩
    · have z1 : (x < n32 2) = False := eq_false (by rw [i32_nlt, n32_lesucc (by decide)]; exact q.resolve_left z0)
      simp (maxSteps := 400000) (disch := omega) only [n32_lit, n32_add, n32_mul, n32_lt, n32_le, n32_eq, n32_nat, n32_inb, gd_dec, gdE, ↓nmE, ↓jnE, ↓bsE, Nat.reduceAdd, Nat.reduceMul, Nat.reduceSub, Nat.reduceLT, Nat.reduceLeDiff, Nat.reduceEqDiff, ↓reduceIte, decide_true, decide_false, and_true, true_and, and_false, false_and, or_false, false_or, or_true, true_or, not_true_eq_false, not_false_eq_true, eq_self, Nat.zero_add, Nat.add_zero, Nat.mul_zero, Nat.mul_one, Nat.zero_le, Nat.not_lt_zero, bind_sm, bind_sm2, z0, z1]
      exact ⟨_, _, _, _, rfl, rfl, Fr.refl, hI, Or.inl rfl⟩
def Fgt (m3 m3' : Mem) : Prop := m3' 0 2 = -1 ∧ (∀ i, i < 384 → m3' 1 i = -1) ∧ ∀ s j, s ≠ 1 → ¬ (s = 0 ∧ j = 2) → m3' s j = m3 s j
theorem t_beginAnew {m3 m6 : Mem} : ∃ m3' m6', f_X7_beginAnew m3 m6 = some (m3', m6') ∧ Fgt m3 m3' ∧ m6' 0 2 = n32 0 := by
  unfold f_X7_beginAnew f_X2_forget f_X4_forget
  simp only [nm_eq, Option.bind_some]
  refine ⟨_, _, rfl, ⟨?_, ?_, ?_⟩, ?_⟩
  · simp (disch := omega) only [up_at, up_ms, up_mi, upA_at, upA_ms]
  · intro i hi
    simp (disch := omega) only [up_at, up_ms, up_mi, upA_at, upA_ms]
    unfold fillf
    rw [if_pos hi]
  · intro s j h1 h2
    rw [upA_ms h1, up_ap, if_neg h2]
  · simp (disch := omega) only [up_at, up_ms, up_mi, upA_at, upA_ms]; rfl
def PRes (s i : Nat) : Prop := s = 6 ∨ (s = 0 ∧ i = 10)
theorem rdr_0 {m6 : Mem} {who many : Nat → Int32} {v : Nat → Nat} (h : m6 0 2 = n32 0) : RDr (n32 0) who many m6 v := ⟨0, fun _ => 0, fun _ => 0, by omega, rfl, h, fun i hi => by omega, fun p _ => by rw [dsum]; omega⟩
theorem t_res8 {m0 w : Mem} (hw : up m0 0 0 0 = w) {k : Nat} (hk : k < 2) (h : w 34 k = n32 1) : ∃ w', f_X8_restore m0 (n32 k) = some (n32 1, w') ∧ Fr PRes w w' ∧ w' 0 10 = n32 0 ∧ ∀ i, i < 109 → w' 6 i = w 35 (109 * k + i) := by
  obtain ⟨w', f1, f2⟩ := t_res_loop w hk
  refine ⟨up w' 0 10 (n32 0), ?_, ?_, ?_, ?_⟩
  · unfold f_X8_restore
    rw [hw, nm_eq w, in_yes (b := 1) (k := 1) rfl (by omega) (by decide)]
    simp (maxSteps := 400000) (disch := omega) only [n32_lit, n32_add, n32_mul, n32_lt, n32_le, n32_eq, n32_nat, n32_inb, gd_dec, gdE, ↓nmE, ↓jnE, ↓bsE, Nat.reduceAdd, Nat.reduceMul, Nat.reduceSub, Nat.reduceLT, Nat.reduceLeDiff, Nat.reduceEqDiff, ↓reduceIte, decide_true, decide_false, and_true, true_and, and_false, false_and, or_false, false_or, or_true, true_or, not_true_eq_false, not_false_eq_true, eq_self, Nat.zero_add, Nat.add_zero, Nat.mul_zero, Nat.mul_one, Nat.zero_le, Nat.not_lt_zero, bind_sm, bind_sm2, h, hk, f1]
  · refine Fr.up ?_ 0 10 _ (Or.inr ⟨rfl, rfl⟩)
    intro s i hn
    unfold PRes at hn
    rw [f2, if_neg (by omega)]
  · simp (disch := omega) only [up_at, up_ms, up_mi, upA_at, upA_ms]
  · intro i hi
    rw [up_ms (by omega), f2, if_pos ⟨rfl, hi⟩]
theorem s_restore {m0 m1 m3 m6 m9 m10 : Mem} {v : Nat → Nat} (hE : REv ((up m0 0 0 0) 6) ((up m0 0 0 0) 0 7) m1 v) (hD : RDr ((up m0 0 0 0) 0 10) ((up m0 0 0 0) 9) ((up m0 0 0 0) 10) m6 v) (hI : RIm ((up m0 0 0 0) 34) ((up m0 0 0 0) 35) m9 m10) (hT : ∀ k, k < 2 → (up m0 0 0 0) 34 k = n32 1 → (up m0 0 0 0) 0 7 = n32 1) (x : Int32) :
    ∃ (a : Int32) (m1' m3' m6' w' : Mem) (v' : Nat → Nat), f_X7_restore m1 m3 m6 m9 m10 x = some (a, m1', m3', m6') ∧ f_X8_restore m0 x = some (a, w') ∧ Fr PRes (up m0 0 0 0) w' ∧ REv (w' 6) (w' 0 7) m1' v' ∧ RDr (w' 0 10) (w' 9) (w' 10) m6' v' ∧ ((m3' = m3 ∧ v' = v) ∨ Fgt m3 m3') := by
  generalize hw : up m0 0 0 0 = w at *
  have none : ∀ a, ∃ (a' : Int32) (m1' m3' m6' w' : Mem) (v' : Nat → Nat), some (a, m1, m3, m6) = some (a', m1', m3', m6') ∧ some (a, w) = some (a', w') ∧ Fr PRes w w' ∧ REv (w' 6) (w' 0 7) m1' v' ∧ RDr (w' 0 10) (w' 9) (w' 10) m6' v' ∧ ((m3' = m3 ∧ v' = v) ∨ Fgt m3 m3') := fun a => ⟨a, m1, m3, m6, w, v, rfl, rfl, Fr.refl, hE, hD, Or.inl ⟨rfl, rfl⟩⟩
  obtain ⟨m3', m6', b1, b2, b3⟩ := t_beginAnew (m3 := m3) (m6 := m6)
  rcases tri x (k := 1) (by decide) with ⟨k, hk, rfl⟩ | q
  · rcases (show k = 0 ∨ k = 1 by omega) with rfl | rfl
    · obtain ⟨⟨i1, i2⟩, -⟩ := hI
      rcases i2 with i2 | ⟨i2, v', i3, i4, i5⟩
      · unfold f_X7_restore f_X8_restore
        rw [hw, nm_eq w, in_yes (b := 1) (k := 1) rfl hk (by decide)]
        simp (maxSteps := 400000) (disch := omega) only [n32_lit, n32_add, n32_mul, n32_lt, n32_le, n32_eq, n32_nat, n32_inb, gd_dec, gdE, ↓nmE, ↓jnE, ↓bsE, Nat.reduceAdd, Nat.reduceMul, Nat.reduceSub, Nat.reduceLT, Nat.reduceLeDiff, Nat.reduceEqDiff, ↓reduceIte, decide_true, decide_false, and_true, true_and, and_false, false_and, or_false, false_or, or_true, true_or, not_true_eq_false, not_false_eq_true, eq_self, Nat.zero_add, Nat.add_zero, Nat.mul_zero, Nat.mul_one, Nat.zero_le, Nat.not_lt_zero, bind_sm, bind_sm2, i1, i2]
        exact none _
      · obtain ⟨w', e1, e2, e3, e4⟩ := t_res8 hw (k := 0) (by omega) i2
        obtain ⟨r, g1, g2, g3, g4, g5⟩ := t_takeFrom (m := m1) (m' := m9) (by rw [i1]; exact Or.inr i2)
        refine ⟨n32 1, r, m3', m6', w', v', ?_, e1, e2, ?_, ?_, Or.inr b2⟩
        · unfold f_X7_restore
          simp (maxSteps := 400000) (disch := omega) only [n32_lit, n32_add, n32_mul, n32_lt, n32_le, n32_eq, n32_nat, n32_inb, gd_dec, gdE, ↓nmE, ↓jnE, ↓bsE, Nat.reduceAdd, Nat.reduceMul, Nat.reduceSub, Nat.reduceLT, Nat.reduceLeDiff, Nat.reduceEqDiff, ↓reduceIte, decide_true, decide_false, and_true, true_and, and_false, false_and, or_false, false_or, or_true, true_or, not_true_eq_false, not_false_eq_true, eq_self, Nat.zero_add, Nat.add_zero, Nat.mul_zero, Nat.mul_one, Nat.zero_le, Nat.not_lt_zero, bind_sm, bind_sm2, i1, i2, g1, b1]
        · have t7 := hT 0 (by omega) i2
          refine ⟨fun i hi => ?_, i4, cl_take i5 i4 g2 g3 g4 g5, ?_, ?_⟩
          · rw [e4 i hi]; exact i3 i hi
          · rw [g2 0 (by omega), i1, i2, e2 0 7 (by unfold PRes; omega), t7]
          · rw [e2 0 7 (by unfold PRes; omega)]; exact Or.inr t7
        · rw [e3]; exact rdr_0 b3
    · obtain ⟨-, i1, i2⟩ := hI
      rcases i2 with i2 | ⟨i2, v', i3, i4, i5⟩
      · unfold f_X7_restore f_X8_restore
        rw [hw, nm_eq w, in_yes (b := 1) (k := 1) rfl hk (by decide)]
        simp (maxSteps := 400000) (disch := omega) only [n32_lit, n32_add, n32_mul, n32_lt, n32_le, n32_eq, n32_nat, n32_inb, gd_dec, gdE, ↓nmE, ↓jnE, ↓bsE, Nat.reduceAdd, Nat.reduceMul, Nat.reduceSub, Nat.reduceLT, Nat.reduceLeDiff, Nat.reduceEqDiff, ↓reduceIte, decide_true, decide_false, and_true, true_and, and_false, false_and, or_false, false_or, or_true, true_or, not_true_eq_false, not_false_eq_true, eq_self, Nat.zero_add, Nat.add_zero, Nat.mul_zero, Nat.mul_one, Nat.zero_le, Nat.not_lt_zero, bind_sm, bind_sm2, i1, i2]
        exact none _
      · obtain ⟨w', e1, e2, e3, e4⟩ := t_res8 hw (k := 1) (by omega) i2
        obtain ⟨r, g1, g2, g3, g4, g5⟩ := t_takeFrom (m := m1) (m' := m10) (by rw [i1]; exact Or.inr i2)
        refine ⟨n32 1, r, m3', m6', w', v', ?_, e1, e2, ?_, ?_, Or.inr b2⟩
        · unfold f_X7_restore
          simp (maxSteps := 400000) (disch := omega) only [n32_lit, n32_add, n32_mul, n32_lt, n32_le, n32_eq, n32_nat, n32_inb, gd_dec, gdE, ↓nmE, ↓jnE, ↓bsE, Nat.reduceAdd, Nat.reduceMul, Nat.reduceSub, Nat.reduceLT, Nat.reduceLeDiff, Nat.reduceEqDiff, ↓reduceIte, decide_true, decide_false, and_true, true_and, and_false, false_and, or_false, false_or, or_true, true_or, not_true_eq_false, not_false_eq_true, eq_self, Nat.zero_add, Nat.add_zero, Nat.mul_zero, Nat.mul_one, Nat.zero_le, Nat.not_lt_zero, bind_sm, bind_sm2, i1, i2, g1, b1]
        · have t7 := hT 1 (by omega) i2
          refine ⟨fun i hi => ?_, i4, cl_take i5 i4 g2 g3 g4 g5, ?_, ?_⟩
          · rw [e4 i hi]; exact i3 i hi
          · rw [g2 0 (by omega), i1, i2, e2 0 7 (by unfold PRes; omega), t7]
          · rw [e2 0 7 (by unfold PRes; omega)]; exact Or.inr t7
        · rw [e3]; exact rdr_0 b3
  · unfold f_X7_restore f_X8_restore
    rw [hw, nm_eq w, in_no (b := 1) (k := 1) rfl (by decide) q]
    by_cases z0 : x < n32 0
    · simp (maxSteps := 400000) (disch := omega) only [n32_lit, n32_add, n32_mul, n32_lt, n32_le, n32_eq, n32_nat, n32_inb, gd_dec, gdE, ↓nmE, ↓jnE, ↓bsE, Nat.reduceAdd, Nat.reduceMul, Nat.reduceSub, Nat.reduceLT, Nat.reduceLeDiff, Nat.reduceEqDiff, ↓reduceIte, decide_true, decide_false, and_true, true_and, and_false, false_and, or_false, false_or, or_true, true_or, not_true_eq_false, not_false_eq_true, eq_self, Nat.zero_add, Nat.add_zero, Nat.mul_zero, Nat.mul_one, Nat.zero_le, Nat.not_lt_zero, bind_sm, bind_sm2, z0]
      exact none _
    · have z1 : (x < n32 2) = False := eq_false (by rw [i32_nlt, n32_lesucc (by decide)]; exact q.resolve_left z0)
      simp (maxSteps := 400000) (disch := omega) only [n32_lit, n32_add, n32_mul, n32_lt, n32_le, n32_eq, n32_nat, n32_inb, gd_dec, gdE, ↓nmE, ↓jnE, ↓bsE, Nat.reduceAdd, Nat.reduceMul, Nat.reduceSub, Nat.reduceLT, Nat.reduceLeDiff, Nat.reduceEqDiff, ↓reduceIte, decide_true, decide_false, and_true, true_and, and_false, false_and, or_false, false_or, or_true, true_or, not_true_eq_false, not_false_eq_true, eq_self, Nat.zero_add, Nat.add_zero, Nat.mul_zero, Nat.mul_one, Nat.zero_le, Nat.not_lt_zero, bind_sm, bind_sm2, z0, z1]
      exact none _
