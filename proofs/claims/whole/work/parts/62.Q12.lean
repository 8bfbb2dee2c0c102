/-! gloves -/
theorem mask_in : ∀ P, P < 8 → ∀ a, a < 2 ^ P → n32 a &&& (n32 (2 ^ P - 1) ^^^ (-n32 1)) = n32 0 := by decide +kernel
theorem mask_out {P : Nat} (hP : P < 8) {x : Int32} (h : x &&& (n32 (2 ^ P - 1) ^^^ (-n32 1)) = n32 0) : ∃ a, a < 2 ^ P ∧ x = n32 a := by
  refine ⟨x.toBitVec.toNat % 2 ^ P, Nat.mod_lt _ (Nat.two_pow_pos P), ?_⟩
  have h' : x.toBitVec &&& (BitVec.ofNat 32 (2 ^ P - 1) ^^^ (BitVec.allOnes 32)) = 0#32 := by
    have := congrArg Int32.toBitVec h
    rw [Int32.toBitVec_and, Int32.toBitVec_xor] at this
    exact this
  apply Int32.toBitVec_inj.mp
  rw [n32_bv]
  apply BitVec.eq_of_getLsbD_eq
  intro i hi
  have hb := congrArg (fun b => BitVec.getLsbD b i) h'
  simp only [BitVec.getLsbD_and, BitVec.getLsbD_xor, BitVec.getLsbD_ofNat, BitVec.getLsbD_allOnes, BitVec.getLsbD_zero, Nat.testBit_two_pow_sub_one, hi, decide_true, Bool.true_and] at hb
  rw [BitVec.getLsbD_ofNat, Nat.testBit_mod_two_pow]
  simp only [hi, decide_true, Bool.true_and]
  by_cases z : i < P
  · simp [z, BitVec.testBit_toNat]
  · simp only [z, decide_false, Bool.false_xor, Bool.and_true] at hb
    simp [z, hb]
theorem t_glove {P : Nat} (hP : P < 8) (x : Int32) : (∃ a, a < 2 ^ P ∧ x = n32 a ∧ f_X8_in x.toInt64 0 (n32 (2 ^ P - 1)).toInt64 = some (n32 1) ∧ (x &&& (n32 (2 ^ P - 1) ^^^ (-n32 1)) = n32 0) = True) ∨ (f_X8_in x.toInt64 0 (n32 (2 ^ P - 1)).toInt64 = some (n32 0) ∧ (x &&& (n32 (2 ^ P - 1) ^^^ (-n32 1)) = n32 0) = False) := by
  have h2 : 2 ^ P ≤ 128 := Nat.pow_le_pow_right (n := 2) (by omega) (show P ≤ 7 by omega)
  have h1 : 0 < 2 ^ P := Nat.two_pow_pos P
  rcases tri x (k := 2 ^ P - 1) (by omega) with ⟨a, ha, rfl⟩ | q
  · exact Or.inl ⟨a, by omega, rfl, in_yes rfl ha (by omega), eq_true (mask_in P hP a (by omega))⟩
  · refine Or.inr ⟨in_no rfl (by omega) q, eq_false (fun z => ?_)⟩
    obtain ⟨a, ha, rfl⟩ := mask_out hP z
    rw [n32_lt (by omega) (by omega), n32_lt (by omega) (by omega)] at q
    omega
/-- the set of all -/
theorem t_all {P : Nat} (hP : P < 8) : n32 1 <<< (n32 P &&& n32 31) - n32 1 = n32 (2 ^ P - 1) := by
  rw [n32_one (by omega), n32_sub (Nat.two_pow_pos P)]
def tb (tm : Nat → Nat) (a : Nat) : Nat → Nat := fun p => tm p + (a.testBit p).toNat
theorem t_add7 {a P : Nat} (ha : a < 128) (hP : P ≤ 7) {s : Mem} : ∃ s1, (∀ K, f_X1_countSitters_L66 K (n32 P) (n32 a) 100000 (n32 0) s = K (n32 P) s1) ∧ ∀ s' j, s1 s' j = if s' = 1 ∧ j < P then s 1 j + n32 (a.testBit j).toNat else s s' j := by
  obtain ⟨s1, i1, i2⟩ := loop_k (S := Mem) (fun K t u s => f_X1_countSitters_L66 K (n32 P) (n32 a) t u s) P (fun i r => ∀ s' j, r s' j = if s' = 1 ∧ j < i then s 1 j + n32 (a.testBit j).toNat else s s' j) (fun K t s _ => by
      refine Eq.trans (f_X1_countSitters_L66.eq_2 _ _ _ _ _ _) ?_
      simp (disch := omega) only [n32_lit, n32_add, n32_mul, n32_lt, n32_le, n32_eq, n32_nat, n32_inb, gd_dec, gd_one, nm_eq, jn_eq, Option.bind_some, Nat.reduceAdd, Nat.reduceMul, Nat.reduceSub, Nat.reduceLT, Nat.reduceLeDiff, Nat.reduceEqDiff, ↓reduceIte, decide_true, decide_false, and_true, true_and, and_false, false_and, or_false, false_or, or_true, true_or, not_true_eq_false, not_false_eq_true, eq_self, Nat.zero_add, Nat.add_zero, Nat.mul_zero, Nat.mul_one, Nat.zero_le, Nat.not_lt_zero, bind_sm, bind_sm2, Nat.le_refl]) (fun i r hi hI => ⟨up r 1 i (s 1 i + n32 (a.testBit i).toNat), fun s' j => by
        rw [up_ap, hI]
        by_cases z1 : s' = 1
        · by_cases z2 : j = i
          · rw [if_pos ⟨z1, z2⟩, if_pos (by omega), z2]
          · rw [if_neg (by omega)]
            by_cases z3 : j < i
            · rw [if_pos ⟨z1, z3⟩, if_pos (by omega)]
            · rw [if_neg (by omega), if_neg (by omega)]
        · rw [if_neg (by omega), if_neg (by omega), if_neg (by omega)], fun K t => by
      refine Eq.trans (f_X1_countSitters_L66.eq_2 _ _ _ _ _ _) ?_
      have := hI 1 i
      rw [if_neg (by omega)] at this
      simp (disch := omega) only [n32_lit, n32_add, n32_mul, n32_lt, n32_le, n32_eq, n32_nat, n32_inb, gd_dec, gd_one, nm_eq, jn_eq, Option.bind_some, Nat.reduceAdd, Nat.reduceMul, Nat.reduceSub, Nat.reduceLT, Nat.reduceLeDiff, Nat.reduceEqDiff, ↓reduceIte, decide_true, decide_false, and_true, true_and, and_false, false_and, or_false, false_or, or_true, true_or, not_true_eq_false, not_false_eq_true, eq_self, Nat.zero_add, Nat.add_zero, Nat.mul_zero, Nat.mul_one, Nat.zero_le, Nat.not_lt_zero, bind_sm, bind_sm2, show ¬ P ≤ i by omega, show i < 7 by omega, n32_bit, this]⟩) P 0 s 100000 (by omega) (by omega) (fun s' j => by rw [if_neg (by omega)])
  exact ⟨s1, i2, i1⟩
theorem t_add8 {a : Nat} (ha : a < 128) {s : Mem} : ∃ s1, (∀ K, f_X8_gloves_L138 K (n32 a) 100000 (n32 0) s = K (n32 7) s1) ∧ ∀ s' j, s1 s' j = if s' = 33 ∧ j < 7 then s 33 j + n32 (a.testBit j).toNat else s s' j := by
  obtain ⟨s1, i1, i2⟩ := loop_k (S := Mem) (fun K t u s => f_X8_gloves_L138 K (n32 a) t u s) 7 (fun i r => ∀ s' j, r s' j = if s' = 33 ∧ j < i then s 33 j + n32 (a.testBit j).toNat else s s' j) (fun K t s _ => by
      refine Eq.trans (f_X8_gloves_L138.eq_2 _ _ _ _ _) ?_
      simp (disch := omega) only [n32_lit, n32_add, n32_mul, n32_lt, n32_le, n32_eq, n32_nat, n32_inb, gd_dec, gd_one, nm_eq, jn_eq, Option.bind_some, Nat.reduceAdd, Nat.reduceMul, Nat.reduceSub, Nat.reduceLT, Nat.reduceLeDiff, Nat.reduceEqDiff, ↓reduceIte, decide_true, decide_false, and_true, true_and, and_false, false_and, or_false, false_or, or_true, true_or, not_true_eq_false, not_false_eq_true, eq_self, Nat.zero_add, Nat.add_zero, Nat.mul_zero, Nat.mul_one, Nat.zero_le, Nat.not_lt_zero, bind_sm, bind_sm2, Nat.le_refl]) (fun i r hi hI => ⟨up r 33 i (s 33 i + n32 (a.testBit i).toNat), fun s' j => by
        rw [up_ap, hI]
        by_cases z1 : s' = 33
        · by_cases z2 : j = i
          · rw [if_pos ⟨z1, z2⟩, if_pos (by omega), z2]
          · rw [if_neg (by omega)]
            by_cases z3 : j < i
            · rw [if_pos ⟨z1, z3⟩, if_pos (by omega)]
            · rw [if_neg (by omega), if_neg (by omega)]
        · rw [if_neg (by omega), if_neg (by omega), if_neg (by omega)], fun K t => by
      refine Eq.trans (f_X8_gloves_L138.eq_2 _ _ _ _ _) ?_
      have := hI 33 i
      rw [if_neg (by omega)] at this
      simp (disch := omega) only [n32_lit, n32_add, n32_mul, n32_lt, n32_le, n32_eq, n32_nat, n32_inb, gd_dec, gd_one, nm_eq, jn_eq, Option.bind_some, Nat.reduceAdd, Nat.reduceMul, Nat.reduceSub, Nat.reduceLT, Nat.reduceLeDiff, Nat.reduceEqDiff, ↓reduceIte, decide_true, decide_false, and_true, true_and, and_false, false_and, or_false, false_or, or_true, true_or, not_true_eq_false, not_false_eq_true, eq_self, Nat.zero_add, Nat.add_zero, Nat.mul_zero, Nat.mul_one, Nat.zero_le, Nat.not_lt_zero, bind_sm, bind_sm2, show ¬ 7 ≤ i by omega, show i < 7 by omega, n32_bit, this]⟩) 7 0 s 100000 (by omega) (by omega) (fun s' j => by rw [if_neg (by omega)])
  exact ⟨s1, i2, i1⟩
theorem t_sit {w m5 m1 : Mem} {v : Nat → Nat} {told : Int32} (hE : REv (w 6) told m1 v) (hR : RRows (w 3) (w 4) (w 5) m5) {r n : Nat} (hr : r < 8) (hn : n ≤ 40) : ∀ d i (s : Mem) (s' : Mem) t t' (tm : Nat → Nat) a, i + d = n → d < t → d < t' → Fr PTu w s' → s' 0 1 = w 0 1 → Tm (v 4) i tm s' s → a < 2 ^ v 4 → s 0 1 = n32 a →
    (∃ tm' s1 s1' a', Tm (v 4) n tm' s1' s1 ∧ Fr PTu w s1' ∧ s1' 0 1 = w 0 1 ∧ s1 0 1 = n32 a' ∧ f_X1_countSitters_L25 (fun (u16 : Int32) (w17 : Mem) => (some (n32 1, w17))) (n32 r) (n32 n) (n32 (v 4)) m5 (n32 (2 ^ v 4 - 1)) t (n32 i) s = some (n32 1, s1) ∧ ∀ K8, f_X8_gloves_L92 K8 (n32 r) (n32 n) (n32 (2 ^ v 4 - 1)) t' (n32 a) (n32 i) s' = K8 (n32 a') (n32 n) s1') ∨
    (∃ s1 s1', Fr PTu w s1' ∧ s1' 0 1 = w 0 1 ∧ f_X1_countSitters_L25 (fun (u16 : Int32) (w17 : Mem) => (some (n32 1, w17))) (n32 r) (n32 n) (n32 (v 4)) m5 (n32 (2 ^ v 4 - 1)) t (n32 i) s = some (n32 0, s1) ∧ ∀ K8, f_X8_gloves_L92 K8 (n32 r) (n32 n) (n32 (2 ^ v 4 - 1)) t' (n32 a) (n32 i) s' = some (-n32 1000001, s1')) := by
  have h4 := hE.2.1.1.1
  intro d
  induction d with
  | zero =>
    intro i s s' t t' tm a e1 e2 e3 hF hst hT ha hs
    obtain ⟨t, rfl⟩ : ∃ u, t = u + 1 := ⟨t - 1, by omega⟩
    obtain ⟨t', rfl⟩ : ∃ u, t' = u + 1 := ⟨t' - 1, by omega⟩
    have : i = n := by omega
    subst this
    refine Or.inl ⟨tm, s, s', a, hT, hF, hst, hs, ?_, ?_⟩
    · rw [f_X1_countSitters_L25.eq_2]
      simp (maxSteps := 400000) (disch := omega) only [n32_lit, n32_add, n32_mul, n32_lt, n32_le, n32_eq, n32_nat, n32_inb, gd_dec, gdE, ↓nmE, ↓jnE, ↓bsE, Nat.reduceAdd, Nat.reduceMul, Nat.reduceSub, Nat.reduceLT, Nat.reduceLeDiff, Nat.reduceEqDiff, ↓reduceIte, decide_true, decide_false, and_true, true_and, and_false, false_and, or_false, false_or, or_true, true_or, not_true_eq_false, not_false_eq_true, eq_self, Nat.zero_add, Nat.add_zero, Nat.mul_zero, Nat.mul_one, Nat.zero_le, Nat.not_lt_zero, bind_sm, bind_sm2, Nat.le_refl]
    · intro K8
      rw [f_X8_gloves_L92.eq_2]
      simp (maxSteps := 400000) (disch := omega) only [n32_lit, n32_add, n32_mul, n32_lt, n32_le, n32_eq, n32_nat, n32_inb, gd_dec, gdE, ↓nmE, ↓jnE, ↓bsE, Nat.reduceAdd, Nat.reduceMul, Nat.reduceSub, Nat.reduceLT, Nat.reduceLeDiff, Nat.reduceEqDiff, ↓reduceIte, decide_true, decide_false, and_true, true_and, and_false, false_and, or_false, false_or, or_true, true_or, not_true_eq_false, not_false_eq_true, eq_self, Nat.zero_add, Nat.add_zero, Nat.mul_zero, Nat.mul_one, Nat.zero_le, Nat.not_lt_zero, bind_sm, bind_sm2, Nat.le_refl]
  | succ d ih =>
    intro i s s' t t' tm a e1 e2 e3 hF hst hT ha hs
    obtain ⟨t, rfl⟩ : ∃ u, t = u + 1 := ⟨t - 1, by omega⟩
    obtain ⟨t', rfl⟩ : ∃ u, t' = u + 1 := ⟨t' - 1, by omega⟩
    have it := t_item hR hr (show i < 40 by omega)
    have it8 : s' 5 (40 * r + i) = w 5 (40 * r + i) := hF 5 _ (by unfold PTu; omega)
    have h2 : 2 ^ v 4 ≤ 128 := Nat.pow_le_pow_right (n := 2) (by omega) h4
    rcases t_glove (P := v 4) (by omega) (w 5 (40 * r + i)) with ⟨b, hb, hx, f1, f2⟩ | ⟨f1, f2⟩
    · rw [hx] at it it8 f1 f2
      obtain ⟨s1, j1, j2⟩ := t_add7 (a := b) (P := v 4) (by omega) h4 (s := up s 0 1 (n32 (a &&& b)))
      obtain ⟨s1', k1, k2⟩ := t_add8 (a := b) (by omega) (s := s')
      have st7 : f_X1_countSitters_L25 (fun (u16 : Int32) (w17 : Mem) => (some (n32 1, w17))) (n32 r) (n32 n) (n32 (v 4)) m5 (n32 (2 ^ v 4 - 1)) (t + 1) (n32 i) s = f_X1_countSitters_L25 (fun (u16 : Int32) (w17 : Mem) => (some (n32 1, w17))) (n32 r) (n32 n) (n32 (v 4)) m5 (n32 (2 ^ v 4 - 1)) t (n32 (i + 1)) s1 := by
        rw [f_X1_countSitters_L25.eq_2]
        simp (maxSteps := 400000) (disch := omega) only [n32_lit, n32_add, n32_mul, n32_lt, n32_le, n32_eq, n32_nat, n32_inb, gd_dec, gdE, ↓nmE, ↓jnE, ↓bsE, Nat.reduceAdd, Nat.reduceMul, Nat.reduceSub, Nat.reduceLT, Nat.reduceLeDiff, Nat.reduceEqDiff, ↓reduceIte, decide_true, decide_false, and_true, true_and, and_false, false_and, or_false, false_or, or_true, true_or, not_true_eq_false, not_false_eq_true, eq_self, Nat.zero_add, Nat.add_zero, Nat.mul_zero, Nat.mul_one, Nat.zero_le, Nat.not_lt_zero, bind_sm, bind_sm2, show ¬ n ≤ i by omega, it, f2, hs, n32_and, j1]
      have st8 : ∀ K8, f_X8_gloves_L92 K8 (n32 r) (n32 n) (n32 (2 ^ v 4 - 1)) (t' + 1) (n32 a) (n32 i) s' = f_X8_gloves_L92 K8 (n32 r) (n32 n) (n32 (2 ^ v 4 - 1)) t' (n32 (a &&& b)) (n32 (i + 1)) s1' := by
        intro K8
        rw [f_X8_gloves_L92.eq_2]
        simp (maxSteps := 400000) (disch := omega) only [n32_lit, n32_add, n32_mul, n32_lt, n32_le, n32_eq, n32_nat, n32_inb, gd_dec, gdE, ↓nmE, ↓jnE, ↓bsE, Nat.reduceAdd, Nat.reduceMul, Nat.reduceSub, Nat.reduceLT, Nat.reduceLeDiff, Nat.reduceEqDiff, ↓reduceIte, decide_true, decide_false, and_true, true_and, and_false, false_and, or_false, false_or, or_true, true_or, not_true_eq_false, not_false_eq_true, eq_self, Nat.zero_add, Nat.add_zero, Nat.mul_zero, Nat.mul_one, Nat.zero_le, Nat.not_lt_zero, bind_sm, bind_sm2, show ¬ n ≤ i by omega, it8, show 40 * r + i < 320 by omega, f1, n32_and, k1]
      rw [st7]
      simp only [st8]
      refine ih (i + 1) _ _ t t' (tb tm b) _ (by omega) (by omega) (by omega) ?_ ?_ ?_ (Nat.lt_of_le_of_lt Nat.and_le_left ha) ?_
      · intro s'' j hn
        unfold PTu at hn
        rw [k2, if_neg (by omega)]
        exact hF s'' j (by unfold PTu; omega)
      · rw [k2, if_neg (by omega)]; exact hst
      · intro q hq
        obtain ⟨b1, b2, b3⟩ := hT q hq
        have t1 : (b.testBit q).toNat ≤ 1 := by cases b.testBit q <;> decide
        refine ⟨?_, ?_, ?_⟩
        · show tm q + (b.testBit q).toNat ≤ i + 1
          omega
        · rw [k2, if_pos (by omega), b2, n32_add]; rfl
        · rw [j2, if_pos (by omega), up_ms (by omega), b3, n32_add]; rfl
      · rw [j2, if_neg (by omega)]
        simp (disch := omega) only [up_at, up_ms, up_mi, upA_at, upA_ms]
    · right
      refine ⟨s, s', hF, hst, ?_, fun K8 => ?_⟩
      · rw [f_X1_countSitters_L25.eq_2]
        simp (maxSteps := 400000) (disch := omega) only [n32_lit, n32_add, n32_mul, n32_lt, n32_le, n32_eq, n32_nat, n32_inb, gd_dec, gdE, ↓nmE, ↓jnE, ↓bsE, Nat.reduceAdd, Nat.reduceMul, Nat.reduceSub, Nat.reduceLT, Nat.reduceLeDiff, Nat.reduceEqDiff, ↓reduceIte, decide_true, decide_false, and_true, true_and, and_false, false_and, or_false, false_or, or_true, true_or, not_true_eq_false, not_false_eq_true, eq_self, Nat.zero_add, Nat.add_zero, Nat.mul_zero, Nat.mul_one, Nat.zero_le, Nat.not_lt_zero, bind_sm, bind_sm2, show ¬ n ≤ i by omega, it, f2]
      · rw [f_X8_gloves_L92.eq_2]
        simp (maxSteps := 400000) (disch := omega) only [n32_lit, n32_add, n32_mul, n32_lt, n32_le, n32_eq, n32_nat, n32_inb, gd_dec, gdE, ↓nmE, ↓jnE, ↓bsE, Nat.reduceAdd, Nat.reduceMul, Nat.reduceSub, Nat.reduceLT, Nat.reduceLeDiff, Nat.reduceEqDiff, ↓reduceIte, decide_true, decide_false, and_true, true_and, and_false, false_and, or_false, false_or, or_true, true_or, not_true_eq_false, not_false_eq_true, eq_self, Nat.zero_add, Nat.add_zero, Nat.mul_zero, Nat.mul_one, Nat.zero_le, Nat.not_lt_zero, bind_sm, bind_sm2, show ¬ n ≤ i by omega, it8, show 40 * r + i < 320 by omega, f1]
theorem s_gloves {m0 m1 m5 m7 m11 : Mem} {v : Nat → Nat} {told : Int32} (hE : REv ((up m0 0 0 0) 6) told m1 v) (hR : RRows ((up m0 0 0 0) 3) ((up m0 0 0 0) 4) ((up m0 0 0 0) 5) m5) (hS : RSt ((up m0 0 0 0) 0 1) m11) (x y z : Int32) : TuStep (f_X7_gloves m1 m5 m7 m11 x y z) (f_X8_gloves m0 x y z) (up m0 0 0 0) := by
  unfold f_X7_gloves f_X8_gloves
  rw [nm_eq (up m0 0 0 0)]
  generalize hw : up m0 0 0 0 = w at *
  have h4 := hE.2.1.1.1
  have c4 := hE.2.2.1.1.2.2.2.1
  have h1 := hE.1
  by_cases p0 : v 4 = 0
  · simp (maxSteps := 400000) (disch := omega) only [n32_lit, n32_add, n32_mul, n32_lt, n32_le, n32_eq, n32_nat, n32_inb, gd_dec, gdE, ↓nmE, ↓jnE, ↓bsE, Nat.reduceAdd, Nat.reduceMul, Nat.reduceSub, Nat.reduceLT, Nat.reduceLeDiff, Nat.reduceEqDiff, ↓reduceIte, decide_true, decide_false, and_true, true_and, and_false, false_and, or_false, false_or, or_true, true_or, not_true_eq_false, not_false_eq_true, eq_self, Nat.zero_add, Nat.add_zero, Nat.mul_zero, Nat.mul_one, Nat.zero_le, Nat.not_lt_zero, bind_sm, bind_sm2, c4, h1 4 (by decide), p0]
    exact TuStep.none hS _
  rcases b_row x with ⟨r, hr, rfl, e1, e2⟩ | ⟨e1, e2⟩
  · have e0 : f_X8_in y.toInt64 1 40 = some (if n32 1 ≤ y ∧ y ≤ n32 40 then n32 1 else n32 0) := t_in (a := 1) (b := 40)
    by_cases q1 : y < n32 1
    · have c : (n32 1 ≤ y ∧ y ≤ n32 40) = False := eq_false (fun q => by have := q.1; rw [← i32_nlt] at this; exact this q1)
      simp (maxSteps := 400000) (disch := omega) only [n32_lit, n32_add, n32_mul, n32_lt, n32_le, n32_eq, n32_nat, n32_inb, gd_dec, gdE, ↓nmE, ↓jnE, ↓bsE, Nat.reduceAdd, Nat.reduceMul, Nat.reduceSub, Nat.reduceLT, Nat.reduceLeDiff, Nat.reduceEqDiff, ↓reduceIte, decide_true, decide_false, and_true, true_and, and_false, false_and, or_false, false_or, or_true, true_or, not_true_eq_false, not_false_eq_true, eq_self, Nat.zero_add, Nat.add_zero, Nat.mul_zero, Nat.mul_one, Nat.zero_le, Nat.not_lt_zero, bind_sm, bind_sm2, c4, h1 4 (by decide), p0, e1, e2, e0, c, q1]
      exact TuStep.none hS _
    by_cases q2 : n32 40 < y
    · have c : (n32 1 ≤ y ∧ y ≤ n32 40) = False := eq_false (fun q => by have := q.2; rw [← i32_nlt] at this; exact this q2)
      simp (maxSteps := 400000) (disch := omega) only [n32_lit, n32_add, n32_mul, n32_lt, n32_le, n32_eq, n32_nat, n32_inb, gd_dec, gdE, ↓nmE, ↓jnE, ↓bsE, Nat.reduceAdd, Nat.reduceMul, Nat.reduceSub, Nat.reduceLT, Nat.reduceLeDiff, Nat.reduceEqDiff, ↓reduceIte, decide_true, decide_false, and_true, true_and, and_false, false_and, or_false, false_or, or_true, true_or, not_true_eq_false, not_false_eq_true, eq_self, Nat.zero_add, Nat.add_zero, Nat.mul_zero, Nat.mul_one, Nat.zero_le, Nat.not_lt_zero, bind_sm, bind_sm2, c4, h1 4 (by decide), p0, e1, e2, e0, c, q1, q2]
      exact TuStep.none hS _
    obtain ⟨n, hn, rfl⟩ : ∃ n, n ≤ 40 ∧ y = n32 n := by
      rcases tri y (k := 40) (by decide) with h | h | h
      · exact h
      · exact absurd h (fun q => q1 (by rw [Int32.lt_iff_toInt_lt] at q ⊢; have : (n32 0).toInt = 0 := rfl; have : (n32 1).toInt = 1 := rfl; omega))
      · exact absurd h q2
    have hn1 : 1 ≤ n := by rw [n32_lt (by omega) (by decide)] at q1; omega
    have i1 : f_X8_in (n32 n).toInt64 1 40 = some (n32 1) := by
      rw [e0, if_pos ⟨by rw [n32_le (by omega) (by omega)]; exact hn1, by rw [n32_le (by omega) (by omega)]; exact hn⟩]
    clear e0
    rcases tri z (k := 1) (by decide) with ⟨j, hj, rfl⟩ | q
    · have i2 := in_yes (b := 1) (k := 1) rfl hj (by decide)
      rcases t_lack hR hr hn with ⟨l1, l2⟩ | ⟨l1, l2, l3⟩ | ⟨l1, l2, l3⟩
      · unfold f_X7_found f_X8_finding
        simp (maxSteps := 400000) (disch := omega) only [n32_lit, n32_add, n32_mul, n32_lt, n32_le, n32_eq, n32_nat, n32_inb, gd_dec, gdE, ↓nmE, ↓jnE, ↓bsE, Nat.reduceAdd, Nat.reduceMul, Nat.reduceSub, Nat.reduceLT, Nat.reduceLeDiff, Nat.reduceEqDiff, ↓reduceIte, decide_true, decide_false, and_true, true_and, and_false, false_and, or_false, false_or, or_true, true_or, not_true_eq_false, not_false_eq_true, eq_self, Nat.zero_add, Nat.add_zero, Nat.mul_zero, Nat.mul_one, Nat.zero_le, Nat.not_lt_zero, bind_sm, bind_sm2, c4, h1 4 (by decide), p0, e1, e2, i1, i2, show ¬ n < 1 by omega, show ¬ 40 < n by omega, hj, l1, l2]
        exact TuStep.found hS _ _
      · unfold f_X7_found f_X8_finding
        simp (maxSteps := 400000) (disch := omega) only [n32_lit, n32_add, n32_mul, n32_lt, n32_le, n32_eq, n32_nat, n32_inb, gd_dec, gdE, ↓nmE, ↓jnE, ↓bsE, Nat.reduceAdd, Nat.reduceMul, Nat.reduceSub, Nat.reduceLT, Nat.reduceLeDiff, Nat.reduceEqDiff, ↓reduceIte, decide_true, decide_false, and_true, true_and, and_false, false_and, or_false, false_or, or_true, true_or, not_true_eq_false, not_false_eq_true, eq_self, Nat.zero_add, Nat.add_zero, Nat.mul_zero, Nat.mul_one, Nat.zero_le, Nat.not_lt_zero, bind_sm, bind_sm2, c4, h1 4 (by decide), p0, e1, e2, i1, i2, show ¬ n < 1 by omega, show ¬ 40 < n by omega, hj, l1, l2, l3]
        exact TuStep.found hS _ _
      · obtain ⟨w1, n1, n2⟩ := t_noTimes w
        have hF : Fr PTu w w1 := by
          intro s i hn
          unfold PTu at hn
          rw [n2, if_neg (by omega)]
        have st1 : w1 0 1 = w 0 1 := by rw [n2, if_neg (by omega)]
        have w16 : w1 6 4 = n32 (v 4) := by rw [n2, if_neg (by omega)]; exact h1 4 (by decide)
        have T0 : Tm (v 4) 0 (fun _ => 0) w1 (up (upA m7 1 (fillf 7 (n32 0) (m7 1))) 0 1 (n32 (2 ^ v 4 - 1))) := by
          intro p hp
          refine ⟨Nat.le_refl _, ?_, ?_⟩
          · rw [n2, if_pos (by omega)]; rfl
          · simp (disch := omega) only [up_at, up_ms, up_mi, upA_at, upA_ms]
            unfold fillf
            rw [if_pos (by omega)]
        have al := t_all (P := v 4) (by omega)
        have h2 : 0 < 2 ^ v 4 := Nat.two_pow_pos _
        unfold f_X1_countSitters f_X7_fine
        simp (maxSteps := 400000) (disch := omega) only [n32_lit, n32_add, n32_mul, n32_lt, n32_le, n32_eq, n32_nat, n32_inb, gd_dec, gdE, ↓nmE, ↓jnE, ↓bsE, Nat.reduceAdd, Nat.reduceMul, Nat.reduceSub, Nat.reduceLT, Nat.reduceLeDiff, Nat.reduceEqDiff, ↓reduceIte, decide_true, decide_false, and_true, true_and, and_false, false_and, or_false, false_or, or_true, true_or, not_true_eq_false, not_false_eq_true, eq_self, Nat.zero_add, Nat.add_zero, Nat.mul_zero, Nat.mul_one, Nat.zero_le, Nat.not_lt_zero, bind_sm, bind_sm2, c4, h1 4 (by decide), p0, e1, e2, i1, i2, show ¬ n < 1 by omega, show ¬ 40 < n by omega, hj, l1, l2, l3, n1, w16, al]
        rcases t_sit hE hR hr hn n 0 _ w1 100000 100000 (fun _ => 0) (2 ^ v 4 - 1) (by omega) (by omega) (by omega) hF st1 T0 (by omega) (by simp (disch := omega) only [up_at, up_ms, up_mi, upA_at, upA_ms]) with ⟨tm, s1, s1', a', k1, k3, k4, k7, k5, k6⟩ | ⟨s1, s1', k3, k4, k5, k6⟩
        · rw [k5, k6]
          have hP : 1 ≤ v 4 ∧ v 4 ≤ 7 := ⟨by omega, h4⟩
          have mo := t_most k1 hP (by omega)
          have T1 : Tm (v 4) n tm (up s1' 0 1 (n32 0)) s1 := by
            intro p hp
            simp (disch := omega) only [up_at, up_ms, up_mi, upA_at, upA_ms]
            exact k1 p hp
          have w64 : (up s1' 0 1 (n32 0)) 6 4 = n32 (v 4) := by
            simp (disch := omega) only [up_at, up_ms, up_mi, upA_at, upA_ms, k3 6 4 (by unfold PTu; omega)]
            exact h1 4 (by decide)
          have m8 := t_most8 T1 hP (by omega) w64
          have fin : ∀ a, TuStep (some (a, s1, up m11 0 9 (n32 0))) (some (a, up s1' 0 1 (n32 0))) w := by
            intro a
            refine ⟨a, _, _, _, rfl, rfl, k3.up 0 1 _ (Or.inr ⟨rfl, rfl⟩), ?_⟩
            rw [up_at]; exact hS.set _
          simp (maxSteps := 400000) (disch := omega) only [n32_lit, n32_add, n32_mul, n32_lt, n32_le, n32_eq, n32_nat, n32_inb, gd_dec, gdE, ↓nmE, ↓jnE, ↓bsE, Nat.reduceAdd, Nat.reduceMul, Nat.reduceSub, Nat.reduceLT, Nat.reduceLeDiff, Nat.reduceEqDiff, ↓reduceIte, decide_true, decide_false, and_true, true_and, and_false, false_and, or_false, false_or, or_true, true_or, not_true_eq_false, not_false_eq_true, eq_self, Nat.zero_add, Nat.add_zero, Nat.mul_zero, Nat.mul_one, Nat.zero_le, Nat.not_lt_zero, bind_sm, bind_sm2, m8]
          rcases (show j = 0 ∨ j = 1 by omega) with rfl | rfl
          · simp (maxSteps := 400000) (disch := omega) only [n32_lit, n32_add, n32_mul, n32_lt, n32_le, n32_eq, n32_nat, n32_inb, gd_dec, gdE, ↓nmE, ↓jnE, ↓bsE, Nat.reduceAdd, Nat.reduceMul, Nat.reduceSub, Nat.reduceLT, Nat.reduceLeDiff, Nat.reduceEqDiff, ↓reduceIte, decide_true, decide_false, and_true, true_and, and_false, false_and, or_false, false_or, or_true, true_or, not_true_eq_false, not_false_eq_true, eq_self, Nat.zero_add, Nat.add_zero, Nat.mul_zero, Nat.mul_one, Nat.zero_le, Nat.not_lt_zero, bind_sm, bind_sm2, k7]
            exact fin _
          · simp (maxSteps := 400000) (disch := omega) only [n32_lit, n32_add, n32_mul, n32_lt, n32_le, n32_eq, n32_nat, n32_inb, gd_dec, gdE, ↓nmE, ↓jnE, ↓bsE, Nat.reduceAdd, Nat.reduceMul, Nat.reduceSub, Nat.reduceLT, Nat.reduceLeDiff, Nat.reduceEqDiff, ↓reduceIte, decide_true, decide_false, and_true, true_and, and_false, false_and, or_false, false_or, or_true, true_or, not_true_eq_false, not_false_eq_true, eq_self, Nat.zero_add, Nat.add_zero, Nat.mul_zero, Nat.mul_one, Nat.zero_le, Nat.not_lt_zero, bind_sm, bind_sm2, mo]
            exact fin _
        · rw [k5, k6]
          simp (maxSteps := 400000) (disch := omega) only [n32_lit, n32_add, n32_mul, n32_lt, n32_le, n32_eq, n32_nat, n32_inb, gd_dec, gdE, ↓nmE, ↓jnE, ↓bsE, Nat.reduceAdd, Nat.reduceMul, Nat.reduceSub, Nat.reduceLT, Nat.reduceLeDiff, Nat.reduceEqDiff, ↓reduceIte, decide_true, decide_false, and_true, true_and, and_false, false_and, or_false, false_or, or_true, true_or, not_true_eq_false, not_false_eq_true, eq_self, Nat.zero_add, Nat.add_zero, Nat.mul_zero, Nat.mul_one, Nat.zero_le, Nat.not_lt_zero, bind_sm, bind_sm2]
          refine ⟨_, _, _, _, rfl, rfl, k3, ?_⟩
          rw [k4]; exact hS
    · have i2 := in_no (b := 1) (k := 1) rfl (by decide) q
      by_cases z0 : z < n32 0
      · simp (maxSteps := 400000) (disch := omega) only [n32_lit, n32_add, n32_mul, n32_lt, n32_le, n32_eq, n32_nat, n32_inb, gd_dec, gdE, ↓nmE, ↓jnE, ↓bsE, Nat.reduceAdd, Nat.reduceMul, Nat.reduceSub, Nat.reduceLT, Nat.reduceLeDiff, Nat.reduceEqDiff, ↓reduceIte, decide_true, decide_false, and_true, true_and, and_false, false_and, or_false, false_or, or_true, true_or, not_true_eq_false, not_false_eq_true, eq_self, Nat.zero_add, Nat.add_zero, Nat.mul_zero, Nat.mul_one, Nat.zero_le, Nat.not_lt_zero, bind_sm, bind_sm2, c4, h1 4 (by decide), p0, e1, e2, i1, i2, show ¬ n < 1 by omega, show ¬ 40 < n by omega, z0]
        exact TuStep.none hS _
      · have z2 : (z ≤ n32 1) = False := eq_false (by rw [i32_nle]; exact q.resolve_left z0)
        simp (maxSteps := 400000) (disch := omega) only [n32_lit, n32_add, n32_mul, n32_lt, n32_le, n32_eq, n32_nat, n32_inb, gd_dec, gdE, ↓nmE, ↓jnE, ↓bsE, Nat.reduceAdd, Nat.reduceMul, Nat.reduceSub, Nat.reduceLT, Nat.reduceLeDiff, Nat.reduceEqDiff, ↓reduceIte, decide_true, decide_false, and_true, true_and, and_false, false_and, or_false, false_or, or_true, true_or, not_true_eq_false, not_false_eq_true, eq_self, Nat.zero_add, Nat.add_zero, Nat.mul_zero, Nat.mul_one, Nat.zero_le, Nat.not_lt_zero, bind_sm, bind_sm2, c4, h1 4 (by decide), p0, e1, e2, i1, i2, show ¬ n < 1 by omega, show ¬ 40 < n by omega, z0, z2]
        exact TuStep.none hS _
  · simp (maxSteps := 400000) (disch := omega) only [n32_lit, n32_add, n32_mul, n32_lt, n32_le, n32_eq, n32_nat, n32_inb, gd_dec, gdE, ↓nmE, ↓jnE, ↓bsE, Nat.reduceAdd, Nat.reduceMul, Nat.reduceSub, Nat.reduceLT, Nat.reduceLeDiff, Nat.reduceEqDiff, ↓reduceIte, decide_true, decide_false, and_true, true_and, and_false, false_and, or_false, false_or, or_true, true_or, not_true_eq_false, not_false_eq_true, eq_self, Nat.zero_add, Nat.add_zero, Nat.mul_zero, Nat.mul_one, Nat.zero_le, Nat.not_lt_zero, bind_sm, bind_sm2, c4, h1 4 (by decide), p0, e1, e2]
    exact TuStep.none hS _
