/-! turn: the steps -/
theorem t_lack {w m5 : Mem} (hR : RRows (w 3) (w 4) (w 5) m5) {r : Nat} (hr : r < 8) {n : Nat} (hn : n ≤ 40) : (f_X8_lack w (n32 r) (n32 n) = some (n32 1) ∧ f_X6_isMissing m5 (n32 r) = some (n32 1)) ∨ (f_X8_lack w (n32 r) (n32 n) = some (n32 2) ∧ f_X6_isMissing m5 (n32 r) = some (n32 0) ∧ f_X6_hasStretch m5 (n32 r) (n32 0) (n32 n) = some (n32 0)) ∨ (f_X8_lack w (n32 r) (n32 n) = some (n32 0) ∧ f_X6_isMissing m5 (n32 r) = some (n32 0) ∧ f_X6_hasStretch m5 (n32 r) (n32 0) (n32 n) = some (n32 1)) := by
  obtain ⟨-, -, ⟨k, g3, g4, g5⟩, -⟩ := hR r hr
  unfold f_X8_lack
  rcases t_missing hR hr with ⟨l1, l2, l3⟩ | ⟨l, hl, l1, l2, l3⟩
  · left
    refine ⟨?_, l3⟩
    rw [n32_nat (by omega), l1]
    simp (disch := omega) only [n32_lit, n32_add, n32_mul, n32_lt, n32_le, n32_eq, n32_nat, n32_inb, gd_dec, gd_one, nm_eq, jn_eq, Option.bind_some, Nat.reduceAdd, Nat.reduceMul, Nat.reduceSub, Nat.reduceLT, Nat.reduceLeDiff, Nat.reduceEqDiff, ↓reduceIte, decide_true, decide_false, and_true, true_and, and_false, false_and, or_false, false_or, or_true, true_or, not_true_eq_false, not_false_eq_true, eq_self, Nat.zero_add, Nat.add_zero, Nat.mul_zero, Nat.mul_one, Nat.zero_le, Nat.not_lt_zero, bind_sm, bind_sm2, hr, show (n32 0 ≤ -n32 1) = False from neg1_le0]
  · right
    rcases t_stretch hr g3 g5 (n32 0) (n32 n) with ⟨i, c, h1, h2, h3, h4⟩ | ⟨h4, h5⟩
    · right
      obtain rfl : n = c := by rw [← n32_eq (a := n) (b := c) (by omega) (by omega)]; exact h3
      refine ⟨?_, l3, h4⟩
      simp (disch := omega) only [n32_lit, n32_add, n32_mul, n32_lt, n32_le, n32_eq, n32_nat, n32_inb, gd_dec, gd_one, nm_eq, jn_eq, Option.bind_some, Nat.reduceAdd, Nat.reduceMul, Nat.reduceSub, Nat.reduceLT, Nat.reduceLeDiff, Nat.reduceEqDiff, ↓reduceIte, decide_true, decide_false, and_true, true_and, and_false, false_and, or_false, false_or, or_true, true_or, not_true_eq_false, not_false_eq_true, eq_self, Nat.zero_add, Nat.add_zero, Nat.mul_zero, Nat.mul_one, Nat.zero_le, Nat.not_lt_zero, bind_sm, bind_sm2, hr, l1, g4, show n ≤ k by omega]
    · left
      refine ⟨?_, l3, h4⟩
      have : k < n := by
        rcases h5 with h5 | h5 | ⟨i, c, h1, h2, h3, h6, h7⟩
        · rw [n32_lt (by omega) (by omega)] at h5; omega
        · rw [n32_lt (by omega) (by omega)] at h5; omega
        · rw [n32_eq (by omega) h1] at h6
          rw [n32_eq (by omega) h2] at h7
          omega
      simp (disch := omega) only [n32_lit, n32_add, n32_mul, n32_lt, n32_le, n32_eq, n32_nat, n32_inb, gd_dec, gd_one, nm_eq, jn_eq, Option.bind_some, Nat.reduceAdd, Nat.reduceMul, Nat.reduceSub, Nat.reduceLT, Nat.reduceLeDiff, Nat.reduceEqDiff, ↓reduceIte, decide_true, decide_false, and_true, true_and, and_false, false_and, or_false, false_or, or_true, true_or, not_true_eq_false, not_false_eq_true, eq_self, Nat.zero_add, Nat.add_zero, Nat.mul_zero, Nat.mul_one, Nat.zero_le, Nat.not_lt_zero, bind_sm, bind_sm2, hr, l1, g4, show ¬ n ≤ k by omega]
/-- what stands in a row, on both sides -/
theorem t_item {w m5 : Mem} (hR : RRows (w 3) (w 4) (w 5) m5) {r i : Nat} (hr : r < 8) (hi : i < 40) : f_X6_item m5 (n32 r) (n32 i) = some (w 5 (40 * r + i)) := by
  unfold f_X6_item
  simp (disch := omega) only [n32_lit, n32_add, n32_mul, n32_lt, n32_le, n32_eq, n32_nat, n32_inb, gd_dec, gd_one, nm_eq, jn_eq, Option.bind_some, Nat.reduceAdd, Nat.reduceMul, Nat.reduceSub, Nat.reduceLT, Nat.reduceLeDiff, Nat.reduceEqDiff, ↓reduceIte, decide_true, decide_false, and_true, true_and, and_false, false_and, or_false, false_or, or_true, true_or, not_true_eq_false, not_false_eq_true, eq_self, Nat.zero_add, Nat.add_zero, Nat.mul_zero, Nat.mul_one, Nat.zero_le, Nat.not_lt_zero, bind_sm, bind_sm2, hr, hi, (hR r hr).2.2.2 i hi]
theorem t_count {w m5 m1 : Mem} {v : Nat → Nat} {told : Int32} (hE : REv (w 6) told m1 v) (hR : RRows (w 3) (w 4) (w 5) m5) {r n : Nat} (hr : r < 8) (hn : n ≤ 40) : ∀ d i (s : Mem) (s' : Mem) t t' (tm : Nat → Nat), i + d = n → d < t → d < t' → Fr PTu w s' → s' 0 1 = w 0 1 → Tm (v 4) i tm s' s → fsm tm (v 4) = i →
    (∃ tm' s1 s1', Tm (v 4) n tm' s1' s1 ∧ fsm tm' (v 4) = n ∧ Fr PTu w s1' ∧ s1' 0 1 = w 0 1 ∧ f_X1_countDrives_L11 (fun (u16 : Int32) (w17 : Mem) => (some (n32 1, w17))) (n32 r) (n32 n) (n32 (v 4)) m5 t (n32 i) s = some (n32 1, s1) ∧ ∀ K8, f_X8_turn_L78 K8 (n32 r) (n32 n) t' (n32 i) s' = K8 (n32 n) s1') ∨
    (∃ s1 s1', Fr PTu w s1' ∧ s1' 0 1 = w 0 1 ∧ f_X1_countDrives_L11 (fun (u16 : Int32) (w17 : Mem) => (some (n32 1, w17))) (n32 r) (n32 n) (n32 (v 4)) m5 t (n32 i) s = some (n32 0, s1) ∧ ∀ K8, f_X8_turn_L78 K8 (n32 r) (n32 n) t' (n32 i) s' = some (-n32 1000001, s1')) := by
  have h4 := hE.2.1.1.1
  intro d
  induction d with
  | zero =>
    intro i s s' t t' tm e1 e2 e3 hF hst hT hs
    obtain ⟨t, rfl⟩ : ∃ u, t = u + 1 := ⟨t - 1, by omega⟩
    obtain ⟨t', rfl⟩ : ∃ u, t' = u + 1 := ⟨t' - 1, by omega⟩
    have : i = n := by omega
    subst this
    refine Or.inl ⟨tm, s, s', hT, hs, hF, hst, ?_, ?_⟩
    · rw [f_X1_countDrives_L11.eq_2]
      simp (maxSteps := 400000) (disch := omega) only [n32_lit, n32_add, n32_mul, n32_lt, n32_le, n32_eq, n32_nat, n32_inb, gd_dec, gdE, ↓nmE, ↓jnE, ↓bsE, Nat.reduceAdd, Nat.reduceMul, Nat.reduceSub, Nat.reduceLT, Nat.reduceLeDiff, Nat.reduceEqDiff, ↓reduceIte, decide_true, decide_false, and_true, true_and, and_false, false_and, or_false, false_or, or_true, true_or, not_true_eq_false, not_false_eq_true, eq_self, Nat.zero_add, Nat.add_zero, Nat.mul_zero, Nat.mul_one, Nat.zero_le, Nat.not_lt_zero, bind_sm, bind_sm2, Nat.le_refl]
    · intro K8
      rw [f_X8_turn_L78.eq_2]
      simp (maxSteps := 400000) (disch := omega) only [n32_lit, n32_add, n32_mul, n32_lt, n32_le, n32_eq, n32_nat, n32_inb, gd_dec, gdE, ↓nmE, ↓jnE, ↓bsE, Nat.reduceAdd, Nat.reduceMul, Nat.reduceSub, Nat.reduceLT, Nat.reduceLeDiff, Nat.reduceEqDiff, ↓reduceIte, decide_true, decide_false, and_true, true_and, and_false, false_and, or_false, false_or, or_true, true_or, not_true_eq_false, not_false_eq_true, eq_self, Nat.zero_add, Nat.add_zero, Nat.mul_zero, Nat.mul_one, Nat.zero_le, Nat.not_lt_zero, bind_sm, bind_sm2, Nat.le_refl]
  | succ d ih =>
    intro i s s' t t' tm e1 e2 e3 hF hst hT hs
    obtain ⟨t, rfl⟩ : ∃ u, t = u + 1 := ⟨t - 1, by omega⟩
    obtain ⟨t', rfl⟩ : ∃ u, t' = u + 1 := ⟨t' - 1, by omega⟩
    have it := t_item hR hr (show i < 40 by omega)
    have it8 : s' 5 (40 * r + i) = w 5 (40 * r + i) := hF 5 _ (by unfold PTu; omega)
    have hE' : REv (s' 6) told m1 v := by rw [hF.row 6 (fun i => by unfold PTu; omega)]; exact hE
    have c4 := hE.2.2.1.1.2.2.2.1
    rcases b_person hE' (w 5 (40 * r + i)) with ⟨p, hp, hx, f1, f2⟩ | ⟨f1, f2⟩
    · obtain ⟨a1, a2, a3⟩ := hT p hp
      rw [hx] at it it8 f1
      have st7 : f_X1_countDrives_L11 (fun (u16 : Int32) (w17 : Mem) => (some (n32 1, w17))) (n32 r) (n32 n) (n32 (v 4)) m5 (t + 1) (n32 i) s = f_X1_countDrives_L11 (fun (u16 : Int32) (w17 : Mem) => (some (n32 1, w17))) (n32 r) (n32 n) (n32 (v 4)) m5 t (n32 (i + 1)) (up s 1 p (n32 (tm p + 1))) := by
        rw [f_X1_countDrives_L11.eq_2]
        simp (maxSteps := 400000) (disch := omega) only [n32_lit, n32_add, n32_mul, n32_lt, n32_le, n32_eq, n32_nat, n32_inb, gd_dec, gdE, ↓nmE, ↓jnE, ↓bsE, Nat.reduceAdd, Nat.reduceMul, Nat.reduceSub, Nat.reduceLT, Nat.reduceLeDiff, Nat.reduceEqDiff, ↓reduceIte, decide_true, decide_false, and_true, true_and, and_false, false_and, or_false, false_or, or_true, true_or, not_true_eq_false, not_false_eq_true, eq_self, Nat.zero_add, Nat.add_zero, Nat.mul_zero, Nat.mul_one, Nat.zero_le, Nat.not_lt_zero, bind_sm, bind_sm2, show ¬ n ≤ i by omega, it, hp, show p < 7 by omega, a3]
      have st8 : ∀ K8, f_X8_turn_L78 K8 (n32 r) (n32 n) (t' + 1) (n32 i) s' = f_X8_turn_L78 K8 (n32 r) (n32 n) t' (n32 (i + 1)) (up s' 33 p (n32 (tm p + 1))) := by
        intro K8
        rw [f_X8_turn_L78.eq_2]
        simp (maxSteps := 400000) (disch := omega) only [n32_lit, n32_add, n32_mul, n32_lt, n32_le, n32_eq, n32_nat, n32_inb, gd_dec, gdE, ↓nmE, ↓jnE, ↓bsE, Nat.reduceAdd, Nat.reduceMul, Nat.reduceSub, Nat.reduceLT, Nat.reduceLeDiff, Nat.reduceEqDiff, ↓reduceIte, decide_true, decide_false, and_true, true_and, and_false, false_and, or_false, false_or, or_true, true_or, not_true_eq_false, not_false_eq_true, eq_self, Nat.zero_add, Nat.add_zero, Nat.mul_zero, Nat.mul_one, Nat.zero_le, Nat.not_lt_zero, bind_sm, bind_sm2, show ¬ n ≤ i by omega, it8, show 40 * r + i < 320 by omega, f1, show p < 7 by omega, a2]
      rw [st7]
      simp only [st8]
      refine ih (i + 1) _ _ t t' (vset tm p (tm p + 1)) (by omega) (by omega) (by omega) ?_ ?_ ?_ ?_
      · exact hF.up 33 _ _ (Or.inl rfl)
      · simp (disch := omega) only [up_at, up_ms, up_mi, upA_at, upA_ms]; exact hst
      · intro q hq
        obtain ⟨b1, b2, b3⟩ := hT q hq
        by_cases z : q = p
        · subst z
          rw [vset_at]
          refine ⟨by omega, ?_, ?_⟩
          · simp (disch := omega) only [up_at, up_ms, up_mi, upA_at, upA_ms]
          · simp (disch := omega) only [up_at, up_ms, up_mi, upA_at, upA_ms]
        · rw [vset_ne z]
          refine ⟨by omega, ?_, ?_⟩
          · simp (disch := omega) only [up_at, up_ms, up_mi, upA_at, upA_ms]; exact b2
          · simp (disch := omega) only [up_at, up_ms, up_mi, upA_at, upA_ms]; exact b3
      · rw [fsm_set _ hp, hs]
    · unfold f_X3_hasPerson at f2
      rw [c4] at f2
      right
      refine ⟨s, s', hF, hst, ?_, fun K8 => ?_⟩
      · rw [f_X1_countDrives_L11.eq_2]
        by_cases z0 : w 5 (40 * r + i) < n32 0
        · simp (maxSteps := 400000) (disch := omega) only [n32_lit, n32_add, n32_mul, n32_lt, n32_le, n32_eq, n32_nat, n32_inb, gd_dec, gdE, ↓nmE, ↓jnE, ↓bsE, Nat.reduceAdd, Nat.reduceMul, Nat.reduceSub, Nat.reduceLT, Nat.reduceLeDiff, Nat.reduceEqDiff, ↓reduceIte, decide_true, decide_false, and_true, true_and, and_false, false_and, or_false, false_or, or_true, true_or, not_true_eq_false, not_false_eq_true, eq_self, Nat.zero_add, Nat.add_zero, Nat.mul_zero, Nat.mul_one, Nat.zero_le, Nat.not_lt_zero, bind_sm, bind_sm2, show ¬ n ≤ i by omega, it, z0]
        · by_cases z1 : w 5 (40 * r + i) < n32 (v 4)
          · rw [n32_lit 0, if_neg z0, if_neg (by rw [← i32_nlt]; exact fun q => q z1)] at f2
            exact absurd f2 (by decide)
          · simp (maxSteps := 400000) (disch := omega) only [n32_lit, n32_add, n32_mul, n32_lt, n32_le, n32_eq, n32_nat, n32_inb, gd_dec, gdE, ↓nmE, ↓jnE, ↓bsE, Nat.reduceAdd, Nat.reduceMul, Nat.reduceSub, Nat.reduceLT, Nat.reduceLeDiff, Nat.reduceEqDiff, ↓reduceIte, decide_true, decide_false, and_true, true_and, and_false, false_and, or_false, false_or, or_true, true_or, not_true_eq_false, not_false_eq_true, eq_self, Nat.zero_add, Nat.add_zero, Nat.mul_zero, Nat.mul_one, Nat.zero_le, Nat.not_lt_zero, bind_sm, bind_sm2, show ¬ n ≤ i by omega, it, z0, z1]
      · rw [f_X8_turn_L78.eq_2]
        simp (maxSteps := 400000) (disch := omega) only [n32_lit, n32_add, n32_mul, n32_lt, n32_le, n32_eq, n32_nat, n32_inb, gd_dec, gdE, ↓nmE, ↓jnE, ↓bsE, Nat.reduceAdd, Nat.reduceMul, Nat.reduceSub, Nat.reduceLT, Nat.reduceLeDiff, Nat.reduceEqDiff, ↓reduceIte, decide_true, decide_false, and_true, true_and, and_false, false_and, or_false, false_or, or_true, true_or, not_true_eq_false, not_false_eq_true, eq_self, Nat.zero_add, Nat.add_zero, Nat.mul_zero, Nat.mul_one, Nat.zero_le, Nat.not_lt_zero, bind_sm, bind_sm2, show ¬ n ≤ i by omega, it8, show 40 * r + i < 320 by omega, f1]
theorem TuStep.found {m7 m11 w : Mem} {st : Int32} (hS : RSt st m11) (a x : Int32) : TuStep (some (a, m7, up m11 0 9 x)) (some (a, up w 0 1 x)) w := by
  refine ⟨a, _, _, _, rfl, rfl, Fr.refl.up 0 1 x (Or.inr ⟨rfl, rfl⟩), ?_⟩
  rw [up_at]; exact hS.set x
theorem TuStep.none {m7 m11 w : Mem} (hS : RSt (w 0 1) m11) (a : Int32) : TuStep (some (a, m7, m11)) (some (a, w)) w := ⟨a, _, _, _, rfl, rfl, Fr.refl, hS⟩
theorem s_turn {m0 m1 m5 m7 m11 : Mem} {v : Nat → Nat} {told : Int32} (hE : REv ((up m0 0 0 0) 6) told m1 v) (hR : RRows ((up m0 0 0 0) 3) ((up m0 0 0 0) 4) ((up m0 0 0 0) 5) m5) (hS : RSt ((up m0 0 0 0) 0 1) m11) (x y z : Int32) : TuStep (f_X7_turn m1 m5 m7 m11 x y z) (f_X8_turn m0 x y z) (up m0 0 0 0) := by
  unfold f_X7_turn f_X8_turn
  rw [nm_eq (up m0 0 0 0)]
  generalize hw : up m0 0 0 0 = w at *
  have h4 := hE.2.1.1.1
  have c4 := hE.2.2.1.1.2.2.2.1
  have h1 := hE.1
  by_cases p0 : v 4 = 0
  · simp (maxSteps := 400000) (disch := omega) only [n32_lit, n32_add, n32_mul, n32_lt, n32_le, n32_eq, n32_nat, n32_inb, gd_dec, gdE, ↓nmE, ↓jnE, ↓bsE, Nat.reduceAdd, Nat.reduceMul, Nat.reduceSub, Nat.reduceLT, Nat.reduceLeDiff, Nat.reduceEqDiff, ↓reduceIte, decide_true, decide_false, and_true, true_and, and_false, false_and, or_false, false_or, or_true, true_or, not_true_eq_false, not_false_eq_true, eq_self, Nat.zero_add, Nat.add_zero, Nat.mul_zero, Nat.mul_one, Nat.zero_le, Nat.not_lt_zero, bind_sm, bind_sm2, c4, h1 4 (by decide), p0]
    exact TuStep.none hS _
  rcases b_row x with ⟨r, hr, rfl, e1, e2⟩ | ⟨e1, e2⟩
  · rcases tri y (k := 40) (by decide) with ⟨n, hn, rfl⟩ | q
    · have i1 := in_yes (b := 40) (k := 40) rfl hn (by decide)
      rcases tri z (k := 2) (by decide) with ⟨j, hj, rfl⟩ | q
      · have i2 := in_yes (b := 2) (k := 2) rfl hj (by decide)
        rcases t_lack hR hr hn with ⟨l1, l2⟩ | ⟨l1, l2, l3⟩ | ⟨l1, l2, l3⟩
        · unfold f_X7_found f_X8_finding
          simp (maxSteps := 400000) (disch := omega) only [n32_lit, n32_add, n32_mul, n32_lt, n32_le, n32_eq, n32_nat, n32_inb, gd_dec, gdE, ↓nmE, ↓jnE, ↓bsE, Nat.reduceAdd, Nat.reduceMul, Nat.reduceSub, Nat.reduceLT, Nat.reduceLeDiff, Nat.reduceEqDiff, ↓reduceIte, decide_true, decide_false, and_true, true_and, and_false, false_and, or_false, false_or, or_true, true_or, not_true_eq_false, not_false_eq_true, eq_self, Nat.zero_add, Nat.add_zero, Nat.mul_zero, Nat.mul_one, Nat.zero_le, Nat.not_lt_zero, bind_sm, bind_sm2, c4, h1 4 (by decide), p0, e1, e2, i1, i2, show ¬ 40 < n by omega, hj, l1, l2]
          exact TuStep.found hS _ _
        · unfold f_X7_found f_X8_finding
          simp (maxSteps := 400000) (disch := omega) only [n32_lit, n32_add, n32_mul, n32_lt, n32_le, n32_eq, n32_nat, n32_inb, gd_dec, gdE, ↓nmE, ↓jnE, ↓bsE, Nat.reduceAdd, Nat.reduceMul, Nat.reduceSub, Nat.reduceLT, Nat.reduceLeDiff, Nat.reduceEqDiff, ↓reduceIte, decide_true, decide_false, and_true, true_and, and_false, false_and, or_false, false_or, or_true, true_or, not_true_eq_false, not_false_eq_true, eq_self, Nat.zero_add, Nat.add_zero, Nat.mul_zero, Nat.mul_one, Nat.zero_le, Nat.not_lt_zero, bind_sm, bind_sm2, c4, h1 4 (by decide), p0, e1, e2, i1, i2, show ¬ 40 < n by omega, hj, l1, l2, l3]
          exact TuStep.found hS _ _
        · obtain ⟨w1, n1, n2⟩ := t_noTimes w
          have hF : Fr PTu w w1 := by
            intro s i hn
            unfold PTu at hn
            rw [n2, if_neg (by omega)]
          have st1 : w1 0 1 = w 0 1 := by rw [n2, if_neg (by omega)]
          have T0 : Tm (v 4) 0 (fun _ => 0) w1 (upA m7 1 (fillf 7 (n32 0) (m7 1))) := by
            intro p hp
            refine ⟨Nat.le_refl _, ?_, ?_⟩
            · rw [n2, if_pos (by omega)]; rfl
            · simp (disch := omega) only [up_at, up_ms, up_mi, upA_at, upA_ms]
              unfold fillf
              rw [if_pos (by omega)]
          have f0 : fsm (fun _ => 0) (v 4) = 0 := by
            have := fsm_up (f := fun _ => 0) (b := 0) (v 4) (fun _ _ => by omega)
            omega
          unfold f_X1_countDrives f_X7_fine
          simp (maxSteps := 400000) (disch := omega) only [n32_lit, n32_add, n32_mul, n32_lt, n32_le, n32_eq, n32_nat, n32_inb, gd_dec, gdE, ↓nmE, ↓jnE, ↓bsE, Nat.reduceAdd, Nat.reduceMul, Nat.reduceSub, Nat.reduceLT, Nat.reduceLeDiff, Nat.reduceEqDiff, ↓reduceIte, decide_true, decide_false, and_true, true_and, and_false, false_and, or_false, false_or, or_true, true_or, not_true_eq_false, not_false_eq_true, eq_self, Nat.zero_add, Nat.add_zero, Nat.mul_zero, Nat.mul_one, Nat.zero_le, Nat.not_lt_zero, bind_sm, bind_sm2, c4, h1 4 (by decide), p0, e1, e2, i1, i2, show ¬ 40 < n by omega, hj, l1, l2, l3, n1]
          rcases t_count hE hR hr hn n 0 _ w1 100000 100000 (fun _ => 0) (by omega) (by omega) (by omega) hF st1 T0 f0 with ⟨tm, s1, s1', k1, k2, k3, k4, k5, k6⟩ | ⟨s1, s1', k3, k4, k5, k6⟩
          · rw [k5, k6]
            have hP : 1 ≤ v 4 ∧ v 4 ≤ 7 := ⟨by omega, h4⟩
            have few := t_few k1 hP (by omega)
            have mis := t_missing' k1 hP (by omega)
            have T1 : Tm (v 4) n tm (up s1' 0 1 (n32 0)) s1 := by
              intro p hp
              simp (disch := omega) only [up_at, up_ms, up_mi, upA_at, upA_ms]
              exact k1 p hp
            have w64 : (up s1' 0 1 (n32 0)) 6 4 = n32 (v 4) := by
              simp (disch := omega) only [up_at, up_ms, up_mi, upA_at, upA_ms, k3 6 4 (by unfold PTu; omega)]
              exact h1 4 (by decide)
            have both := t_both T1 hP (by omega) w64
            have l := lfe_lt tm (v 4 - 1)
            have l' := mfe_lt tm (v 4 - 1)
            rw [show v 4 - 1 + 1 = v 4 by omega] at l l'
            obtain ⟨a1, a2, a3⟩ := k1 (lfe tm (v 4)) (by omega)
            obtain ⟨b1, b2, b3⟩ := k1 (mfe tm (v 4)) (by omega)
            have fin : ∀ a, TuStep (some (a, s1, up m11 0 9 (n32 0))) (some (a, up s1' 0 1 (n32 0))) w := by
              intro a
              refine ⟨a, _, _, _, rfl, rfl, k3.up 0 1 _ (Or.inr ⟨rfl, rfl⟩), ?_⟩
              rw [up_at]; exact hS.set _
            simp (maxSteps := 400000) (disch := omega) only [n32_lit, n32_add, n32_mul, n32_lt, n32_le, n32_eq, n32_nat, n32_inb, gd_dec, gdE, ↓nmE, ↓jnE, ↓bsE, Nat.reduceAdd, Nat.reduceMul, Nat.reduceSub, Nat.reduceLT, Nat.reduceLeDiff, Nat.reduceEqDiff, ↓reduceIte, decide_true, decide_false, and_true, true_and, and_false, false_and, or_false, false_or, or_true, true_or, not_true_eq_false, not_false_eq_true, eq_self, Nat.zero_add, Nat.add_zero, Nat.mul_zero, Nat.mul_one, Nat.zero_le, Nat.not_lt_zero, bind_sm, bind_sm2, both]
            rcases (show j = 0 ∨ j = 1 ∨ j = 2 by omega) with rfl | rfl | rfl
            · simp (maxSteps := 400000) (disch := omega) only [n32_lit, n32_add, n32_mul, n32_lt, n32_le, n32_eq, n32_nat, n32_inb, gd_dec, gdE, ↓nmE, ↓jnE, ↓bsE, Nat.reduceAdd, Nat.reduceMul, Nat.reduceSub, Nat.reduceLT, Nat.reduceLeDiff, Nat.reduceEqDiff, ↓reduceIte, decide_true, decide_false, and_true, true_and, and_false, false_and, or_false, false_or, or_true, true_or, not_true_eq_false, not_false_eq_true, eq_self, Nat.zero_add, Nat.add_zero, Nat.mul_zero, Nat.mul_one, Nat.zero_le, Nat.not_lt_zero, bind_sm, bind_sm2, few]
              exact fin _
            · simp (maxSteps := 400000) (disch := omega) only [n32_lit, n32_add, n32_mul, n32_lt, n32_le, n32_eq, n32_nat, n32_inb, gd_dec, gdE, ↓nmE, ↓jnE, ↓bsE, Nat.reduceAdd, Nat.reduceMul, Nat.reduceSub, Nat.reduceLT, Nat.reduceLeDiff, Nat.reduceEqDiff, ↓reduceIte, decide_true, decide_false, and_true, true_and, and_false, false_and, or_false, false_or, or_true, true_or, not_true_eq_false, not_false_eq_true, eq_self, Nat.zero_add, Nat.add_zero, Nat.mul_zero, Nat.mul_one, Nat.zero_le, Nat.not_lt_zero, bind_sm, bind_sm2, up_at, up_ms, up_mi, upA_at, upA_ms, few, show lfe tm (v 4) < 7 by omega, a2, a3]
              exact fin _
            · have ms := fsm_miss (tm := tm) (M := tm (mfe tm (v 4))) (v 4) (mfe_max tm (v 4))
              simp (maxSteps := 400000) (disch := omega) only [n32_lit, n32_add, n32_mul, n32_lt, n32_le, n32_eq, n32_nat, n32_inb, gd_dec, gdE, ↓nmE, ↓jnE, ↓bsE, Nat.reduceAdd, Nat.reduceMul, Nat.reduceSub, Nat.reduceLT, Nat.reduceLeDiff, Nat.reduceEqDiff, ↓reduceIte, decide_true, decide_false, and_true, true_and, and_false, false_and, or_false, false_or, or_true, true_or, not_true_eq_false, not_false_eq_true, eq_self, Nat.zero_add, Nat.add_zero, Nat.mul_zero, Nat.mul_one, Nat.zero_le, Nat.not_lt_zero, bind_sm, bind_sm2, up_at, up_ms, up_mi, upA_at, upA_ms, mis, show mfe tm (v 4) < 7 by omega, b2, w64]
              have h66 : s1' 6 4 = n32 (v 4) := by rw [k3 6 4 (by unfold PTu; omega)]; exact h1 4 (by decide)
              rw [h66, n32_mul, n32_sub (by omega), show tm (mfe tm (v 4)) * v 4 - n = fsm (fun p => tm (mfe tm (v 4)) - tm p) (v 4) by omega]
              exact fin _
          · rw [k5, k6]
            simp (maxSteps := 400000) (disch := omega) only [n32_lit, n32_add, n32_mul, n32_lt, n32_le, n32_eq, n32_nat, n32_inb, gd_dec, gdE, ↓nmE, ↓jnE, ↓bsE, Nat.reduceAdd, Nat.reduceMul, Nat.reduceSub, Nat.reduceLT, Nat.reduceLeDiff, Nat.reduceEqDiff, ↓reduceIte, decide_true, decide_false, and_true, true_and, and_false, false_and, or_false, false_or, or_true, true_or, not_true_eq_false, not_false_eq_true, eq_self, Nat.zero_add, Nat.add_zero, Nat.mul_zero, Nat.mul_one, Nat.zero_le, Nat.not_lt_zero, bind_sm, bind_sm2]
            refine ⟨_, _, _, _, rfl, rfl, k3, ?_⟩
            rw [k4]; exact hS
      · have i2 := in_no (b := 2) (k := 2) rfl (by decide) q
        by_cases z0 : z < n32 0
        · simp (maxSteps := 400000) (disch := omega) only [n32_lit, n32_add, n32_mul, n32_lt, n32_le, n32_eq, n32_nat, n32_inb, gd_dec, gdE, ↓nmE, ↓jnE, ↓bsE, Nat.reduceAdd, Nat.reduceMul, Nat.reduceSub, Nat.reduceLT, Nat.reduceLeDiff, Nat.reduceEqDiff, ↓reduceIte, decide_true, decide_false, and_true, true_and, and_false, false_and, or_false, false_or, or_true, true_or, not_true_eq_false, not_false_eq_true, eq_self, Nat.zero_add, Nat.add_zero, Nat.mul_zero, Nat.mul_one, Nat.zero_le, Nat.not_lt_zero, bind_sm, bind_sm2, c4, h1 4 (by decide), p0, e1, e2, i1, i2, show ¬ 40 < n by omega, z0]
          exact TuStep.none hS _
        · have z2 : (z ≤ n32 2) = False := eq_false (by rw [i32_nle]; exact q.resolve_left z0)
          simp (maxSteps := 400000) (disch := omega) only [n32_lit, n32_add, n32_mul, n32_lt, n32_le, n32_eq, n32_nat, n32_inb, gd_dec, gdE, ↓nmE, ↓jnE, ↓bsE, Nat.reduceAdd, Nat.reduceMul, Nat.reduceSub, Nat.reduceLT, Nat.reduceLeDiff, Nat.reduceEqDiff, ↓reduceIte, decide_true, decide_false, and_true, true_and, and_false, false_and, or_false, false_or, or_true, true_or, not_true_eq_false, not_false_eq_true, eq_self, Nat.zero_add, Nat.add_zero, Nat.mul_zero, Nat.mul_one, Nat.zero_le, Nat.not_lt_zero, bind_sm, bind_sm2, c4, h1 4 (by decide), p0, e1, e2, i1, i2, show ¬ 40 < n by omega, z0, z2]
          exact TuStep.none hS _
    · have i1 := in_no (b := 40) (k := 40) rfl (by decide) q
      by_cases z0 : y < n32 0
      · simp (maxSteps := 400000) (disch := omega) only [n32_lit, n32_add, n32_mul, n32_lt, n32_le, n32_eq, n32_nat, n32_inb, gd_dec, gdE, ↓nmE, ↓jnE, ↓bsE, Nat.reduceAdd, Nat.reduceMul, Nat.reduceSub, Nat.reduceLT, Nat.reduceLeDiff, Nat.reduceEqDiff, ↓reduceIte, decide_true, decide_false, and_true, true_and, and_false, false_and, or_false, false_or, or_true, true_or, not_true_eq_false, not_false_eq_true, eq_self, Nat.zero_add, Nat.add_zero, Nat.mul_zero, Nat.mul_one, Nat.zero_le, Nat.not_lt_zero, bind_sm, bind_sm2, c4, h1 4 (by decide), p0, e1, e2, i1, z0]
        exact TuStep.none hS _
      · simp (maxSteps := 400000) (disch := omega) only [n32_lit, n32_add, n32_mul, n32_lt, n32_le, n32_eq, n32_nat, n32_inb, gd_dec, gdE, ↓nmE, ↓jnE, ↓bsE, Nat.reduceAdd, Nat.reduceMul, Nat.reduceSub, Nat.reduceLT, Nat.reduceLeDiff, Nat.reduceEqDiff, ↓reduceIte, decide_true, decide_false, and_true, true_and, and_false, false_and, or_false, false_or, or_true, true_or, not_true_eq_false, not_false_eq_true, eq_self, Nat.zero_add, Nat.add_zero, Nat.mul_zero, Nat.mul_one, Nat.zero_le, Nat.not_lt_zero, bind_sm, bind_sm2, c4, h1 4 (by decide), p0, e1, e2, i1, z0, q.resolve_left z0]
        exact TuStep.none hS _
  · simp (maxSteps := 400000) (disch := omega) only [n32_lit, n32_add, n32_mul, n32_lt, n32_le, n32_eq, n32_nat, n32_inb, gd_dec, gdE, ↓nmE, ↓jnE, ↓bsE, Nat.reduceAdd, Nat.reduceMul, Nat.reduceSub, Nat.reduceLT, Nat.reduceLeDiff, Nat.reduceEqDiff, ↓reduceIte, decide_true, decide_false, and_true, true_and, and_false, false_and, or_false, false_or, or_true, true_or, not_true_eq_false, not_false_eq_true, eq_self, Nat.zero_add, Nat.add_zero, Nat.mul_zero, Nat.mul_one, Nat.zero_le, Nat.not_lt_zero, bind_sm, bind_sm2, c4, h1 4 (by decide), p0, e1, e2]
    exact TuStep.none hS _
