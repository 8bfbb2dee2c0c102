/-! feed -/
def dn (n : Nat) : Int32 := n32 n - 1
theorem dn_0 : dn 0 = -1 := rfl
theorem dn_s (n : Nat) : dn (n + 1) = n32 n := by
  unfold dn
  rw [← n32_add]
  exact Int32.add_sub_cancel _ _
theorem dn_p (n : Nat) : n32 n + -n32 1 = dn n := (Int32.sub_eq_add_neg _ _).symm
theorem loop_dn {S R : Type} (F : Nat → Int32 → S → Option R) (I : Nat → S → Prop) (Q : R → Prop)
    (hstop : ∀ t s, I 0 s → ok Q (F (t + 1) (-1) s))
    (hstep : ∀ i t s, I (i + 1) s → (∃ s', I i s' ∧ F (t + 1) (n32 i) s = F t (dn i) s') ∨ ok Q (F (t + 1) (n32 i) s)) :
    ∀ (n : Nat) (s : S) (t : Nat), n < t → I n s → ok Q (F t (dn n) s) := by
  intro n
  induction n with
  | zero =>
    intro s t h2 h3
    obtain ⟨t, rfl⟩ : ∃ u, t = u + 1 := ⟨t - 1, by omega⟩
    exact hstop t s h3
  | succ n ih =>
    intro s t h2 h3
    obtain ⟨t, rfl⟩ : ∃ u, t = u + 1 := ⟨t - 1, by omega⟩
    rw [dn_s]
    rcases hstep n t s h3 with ⟨s', h4, h5⟩ | h4
    · rw [h5]
      exact ih s' t (by omega) h4
    · exact h4
theorem loop_dn2 {S7 S8 R7 R8 : Type} (F7 : Nat → Int32 → S7 → Option R7) (F8 : Nat → Int32 → S8 → Option R8) (I : Nat → S7 → S8 → Prop) (Q : R7 → R8 → Prop)
    (hstop : ∀ t t' s s', I 0 s s' → ok2 Q (F7 (t + 1) (-1) s) (F8 (t' + 1) (-1) s'))
    (hstep : ∀ i t t' s s', I (i + 1) s s' → ∃ s1 s1', I i s1 s1' ∧ F7 (t + 1) (n32 i) s = F7 t (dn i) s1 ∧ F8 (t' + 1) (n32 i) s' = F8 t' (dn i) s1') :
    ∀ (n : Nat) (s : S7) (s' : S8) (t t' : Nat), n < t → n < t' → I n s s' → ok2 Q (F7 t (dn n) s) (F8 t' (dn n) s') := by
  intro n
  induction n with
  | zero =>
    intro s s' t t' h2 h2' h3
    obtain ⟨t, rfl⟩ : ∃ u, t = u + 1 := ⟨t - 1, by omega⟩
    obtain ⟨t', rfl⟩ : ∃ u, t' = u + 1 := ⟨t' - 1, by omega⟩
    exact hstop t t' s s' h3
  | succ n ih =>
    intro s s' t t' h2 h2' h3
    obtain ⟨t, rfl⟩ : ∃ u, t = u + 1 := ⟨t - 1, by omega⟩
    obtain ⟨t', rfl⟩ : ∃ u, t' = u + 1 := ⟨t' - 1, by omega⟩
    rw [dn_s]
    obtain ⟨s1, s1', h4, h5, h6⟩ := hstep n t t' s s' h3
    rw [h5, h6]
    exact ih s1 s1' t t' (by omega) (by omega) h4
theorem byte_and (y : BitVec 64) : (y &&& 255#64).toNat < 256 := by
  rw [BitVec.toNat_and]
  exact Nat.lt_of_le_of_lt Nat.and_le_right (by decide)
theorem byte_lane (y : Int64) : ∃ b, b < 256 ∧ (y &&& 255).toInt32 = n32 b ∧ vp_nar .byte (y.toInt32.toInt8.toInt32) = (n32 b).toInt8.toInt32 := by
  refine ⟨(y.toBitVec &&& 255#64).toNat, byte_and _, ?_, ?_⟩
  · apply Int32.toBitVec_inj.mp
    rw [Int64.toBitVec_toInt32, n32_bv, Int64.toBitVec_and, BitVec.signExtend_eq_setWidth_of_le _ (by decide)]
    rfl
  · have e : y.toInt32.toInt8 = (n32 (y.toBitVec &&& 255#64).toNat).toInt8 := by
      apply Int8.toBitVec_inj.mp
      rw [Int32.toBitVec_toInt8, Int64.toBitVec_toInt32, Int32.toBitVec_toInt8, n32_bv]
      rw [BitVec.signExtend_eq_setWidth_of_le _ (by decide), BitVec.signExtend_eq_setWidth_of_le _ (by decide), BitVec.signExtend_eq_setWidth_of_le _ (by decide)]
      apply BitVec.eq_of_toNat_eq
      rw [BitVec.toNat_setWidth, BitVec.toNat_setWidth, BitVec.toNat_setWidth, BitVec.toNat_ofNat, BitVec.toNat_and, show (255#64).toNat = 2 ^ 8 - 1 from rfl, Nat.and_two_pow_sub_one_eq_mod]
      omega
    rw [← e]
    have : vp_nar .byte (y.toInt32.toInt8.toInt32) = y.toInt32.toInt8.toInt32.toInt8.toInt32 := rfl
    rw [this, Int8.toInt8_toInt32]
def PFeed (s i : Nat) : Prop := s = 12 ∨ (s = 0 ∧ i = 12)
def FeedStep (f7 : Option (Int32 × Mem)) (f8 : Option (Int32 × Mem)) (w : Mem) : Prop :=
  ∃ (a : Int32) (m4' w' : Mem), f7 = some (a, m4') ∧ f8 = some (a, w') ∧ Fr PFeed w w' ∧ RTape (w' 0 12) (w' 0 13) (w' 12) m4'
theorem s_feed {m0 m4 : Mem} (hT : RTape ((up m0 0 0 0) 0 12) ((up m0 0 0 0) 0 13) ((up m0 0 0 0) 12) m4) (x : Int64) (y : Int32) : FeedStep (f_X7_feed m4 x y) (f_X8_feed m0 x y) (up m0 0 0 0) := by
  unfold f_X7_feed f_X8_feed
  rw [nm_eq]
  generalize hw : up m0 0 0 0 = w at *
  have bad : FeedStep (some (-n32 1000001, m4)) (some (-n32 1000001, w)) w := ⟨_, _, _, rfl, rfl, Fr.refl, hT⟩
  have e0 : f_X8_in y.toInt64 1 8 = some (if n32 1 ≤ y ∧ y ≤ n32 8 then n32 1 else n32 0) := t_in (a := 1) (b := 8)
  rw [e0]
  by_cases h1 : y < n32 1
  · have c : (n32 1 ≤ y ∧ y ≤ n32 8) = False := eq_false (fun q => by have := q.1; rw [← i32_nlt] at this; exact this h1)
    simp (maxSteps := 400000) (disch := omega) only [n32_lit, n32_add, n32_mul, n32_lt, n32_le, n32_eq, n32_nat, n32_inb, gd_dec, gdE, ↓nmE, ↓jnE, ↓bsE, Nat.reduceAdd, Nat.reduceMul, Nat.reduceSub, Nat.reduceLT, Nat.reduceLeDiff, Nat.reduceEqDiff, ↓reduceIte, decide_true, decide_false, and_true, true_and, and_false, false_and, or_false, false_or, or_true, true_or, not_true_eq_false, not_false_eq_true, eq_self, Nat.zero_add, Nat.add_zero, Nat.mul_zero, Nat.mul_one, Nat.zero_le, Nat.not_lt_zero, bind_sm, bind_sm2, h1, c]
    exact bad
  · by_cases h2 : y ≤ n32 8
    · have c : (n32 1 ≤ y ∧ y ≤ n32 8) = True := eq_true ⟨by rw [← i32_nlt]; exact h1, h2⟩
      simp only [c, ↓reduceIte]
      clear c e0
      obtain ⟨n, hn, rfl⟩ : ∃ n, n ≤ 8 ∧ y = n32 n := by
        rcases tri y (k := 8) (by decide) with h | h | h
        · exact h
        · exact absurd h (fun q => h1 (by rw [Int32.lt_iff_toInt_lt] at q ⊢; have : (n32 0).toInt = 0 := rfl; have : (n32 1).toInt = 1 := rfl; omega))
        · exact absurd h2 (by rw [i32_nle]; exact h)
      obtain ⟨g1, L, hL, g2, g3, g4⟩ := hT
      have e1 : n32 500 - n32 L = n32 (500 - L) := n32_sub hL
      unfold f_X5_append
      simp (maxSteps := 400000) (disch := omega) only [n32_lit, n32_add, n32_mul, n32_lt, n32_le, n32_eq, n32_nat, n32_inb, gd_dec, gdE, ↓nmE, ↓jnE, ↓bsE, Nat.reduceAdd, Nat.reduceMul, Nat.reduceSub, Nat.reduceLT, Nat.reduceLeDiff, Nat.reduceEqDiff, ↓reduceIte, decide_true, decide_false, and_true, true_and, and_false, false_and, or_false, false_or, or_true, true_or, not_true_eq_false, not_false_eq_true, eq_self, Nat.zero_add, Nat.add_zero, Nat.mul_zero, Nat.mul_one, Nat.zero_le, Nat.not_lt_zero, bind_sm, bind_sm2, h1, h2, g2, g3, e1]
      by_cases h3 : L + n ≤ 500
      · rw [if_pos (by omega), if_pos h3]
        have key : ok2 (fun (r : Int32 × Mem) (s : Int32 × Mem) => r.1 = s.1 ∧ Fr PFeed w s.2 ∧ RTape (s.2 0 12) (s.2 0 13) (s.2 12) r.2) (f_X5_append_L20 (fun (u16 : Int32) (w17 : Mem) => (some (w17 0 1, w17))) x 100000 (dn n) m4) (f_X8_feed_L40 (fun (u18 : Int32) (w19 : Mem) => (some (w19 0 12, w19))) x 100000 (dn n) w) := by
          refine loop_dn2 (S7 := Mem) (S8 := Mem) (fun t u s => f_X5_append_L20 (fun (u16 : Int32) (w17 : Mem) => (some (w17 0 1, w17))) x t u s) (fun t u s => f_X8_feed_L40 (fun (u18 : Int32) (w19 : Mem) => (some (w19 0 12, w19))) x t u s) (fun i s s' => i ≤ n ∧ Fr PFeed w s' ∧ s 0 2 = s' 0 13 ∧ s' 0 12 = n32 (L + (n - i)) ∧ s 0 1 = n32 (L + (n - i)) ∧ ∀ j, j < L + (n - i) → ∃ b, b < 256 ∧ s' 12 j = n32 b ∧ s 1 j = (n32 b).toInt8.toInt32) _ ?_ ?_ n m4 w 100000 100000 (by omega) (by omega) ?_
          · intro t t' s s' ⟨i1, i2, i3, i4, i5, i6⟩
            refine ok2_eq (f_X5_append_L20.eq_2 _ _ _ _ _) (f_X8_feed_L40.eq_2 _ _ _ _ _) ?_
            rw [n32_lit 0, if_pos (by decide), if_pos (by decide)]
            refine ok2_some ⟨?_, i2, ?_⟩
            · show s 0 1 = s' 0 12
              rw [i4, i5]
            · exact ⟨i3, L + (n - 0), by omega, i4, i5, i6⟩
          · intro i t t' s s' ⟨i1, i2, i3, i4, i5, i6⟩
            obtain ⟨b, hb, b1, b2⟩ := byte_lane (x >>> ((n32 8 * n32 i).toInt64 &&& 63))
            refine ⟨up (up s 1 (L + (n - (i + 1))) (n32 b).toInt8.toInt32) 0 1 (n32 (L + (n - i))), up (up s' 12 (L + (n - (i + 1))) (n32 b)) 0 12 (n32 (L + (n - i))), ⟨by omega, ?_, ?_, ?_, ?_, ?_⟩, ?_, ?_⟩
            · exact (i2.up 12 _ _ (Or.inl rfl)).up 0 12 _ (Or.inr ⟨rfl, rfl⟩)
            · simp (disch := omega) only [up_at, up_ms, up_mi, upA_at, upA_ms]; exact i3
            · simp (disch := omega) only [up_at, up_ms, up_mi, upA_at, upA_ms]
            · simp (disch := omega) only [up_at, up_ms, up_mi, upA_at, upA_ms]
            · intro j hj
              by_cases hjl : j = L + (n - (i + 1))
              · subst hjl
                refine ⟨b, hb, ?_, ?_⟩
                · simp (disch := omega) only [up_at, up_ms, up_mi, upA_at, upA_ms]
                · simp (disch := omega) only [up_at, up_ms, up_mi, upA_at, upA_ms]
              · obtain ⟨b', c1, c2, c3⟩ := i6 j (by omega)
                refine ⟨b', c1, ?_, ?_⟩
                · simp (disch := omega) only [up_at, up_ms, up_mi, upA_at, upA_ms]; exact c2
                · simp (disch := omega) only [up_at, up_ms, up_mi, upA_at, upA_ms]; exact c3
            · refine Eq.trans (f_X5_append_L20.eq_2 _ _ _ _ _) ?_
              rw [n32_lit 0, n32_lit 8, i5]
              rw [b2]
              simp (disch := omega) only [n32_lit, n32_add, n32_mul, n32_lt, n32_le, n32_eq, n32_nat, n32_inb, gd_dec, gd_one, nm_eq, jn_eq, Option.bind_some, Nat.reduceAdd, Nat.reduceMul, Nat.reduceSub, Nat.reduceLT, Nat.reduceLeDiff, Nat.reduceEqDiff, ↓reduceIte, decide_true, decide_false, and_true, true_and, and_false, false_and, or_false, false_or, or_true, true_or, not_true_eq_false, not_false_eq_true, eq_self, Nat.zero_add, Nat.add_zero, Nat.mul_zero, Nat.mul_one, Nat.zero_le, Nat.not_lt_zero, bind_sm, bind_sm2, up_at, up_ms, up_mi, upA_at, upA_ms, show L + (n - (i + 1)) < 500 by omega, i5, dn_p, show L + (n - (i + 1)) + 1 = L + (n - i) by omega]
            · refine Eq.trans (f_X8_feed_L40.eq_2 _ _ _ _ _) ?_
              rw [n32_lit 0, n32_lit 8, i4]
              rw [b1]
              simp (disch := omega) only [n32_lit, n32_add, n32_mul, n32_lt, n32_le, n32_eq, n32_nat, n32_inb, gd_dec, gd_one, nm_eq, jn_eq, Option.bind_some, Nat.reduceAdd, Nat.reduceMul, Nat.reduceSub, Nat.reduceLT, Nat.reduceLeDiff, Nat.reduceEqDiff, ↓reduceIte, decide_true, decide_false, and_true, true_and, and_false, false_and, or_false, false_or, or_true, true_or, not_true_eq_false, not_false_eq_true, eq_self, Nat.zero_add, Nat.add_zero, Nat.mul_zero, Nat.mul_one, Nat.zero_le, Nat.not_lt_zero, bind_sm, bind_sm2, up_at, up_ms, up_mi, upA_at, upA_ms, show L + (n - (i + 1)) < 500 by omega, i4, dn_p, show L + (n - (i + 1)) + 1 = L + (n - i) by omega]
          · refine ⟨Nat.le_refl _, Fr.refl, g1, ?_, ?_, ?_⟩
            · rw [g2, show L + (n - n) = L by omega]
            · rw [g3, show L + (n - n) = L by omega]
            · rw [show L + (n - n) = L by omega]; exact g4
        obtain ⟨r, s, k1, k2, k3, k4, k5⟩ := key
        have d : n32 n - n32 1 = dn n := rfl
        rw [d, k1, k2]
        refine ⟨r.1, r.2, s.2, rfl, ?_, k4, k5⟩
        rw [k3]
      · rw [if_neg (by omega), if_neg h3]
        exact ⟨_, _, _, rfl, rfl, Fr.refl, ⟨g1, L, hL, g2, g3, g4⟩⟩
    · have c : (n32 1 ≤ y ∧ y ≤ n32 8) = False := eq_false (fun q => h2 q.2)
      simp (maxSteps := 400000) (disch := omega) only [n32_lit, n32_add, n32_mul, n32_lt, n32_le, n32_eq, n32_nat, n32_inb, gd_dec, gdE, ↓nmE, ↓jnE, ↓bsE, Nat.reduceAdd, Nat.reduceMul, Nat.reduceSub, Nat.reduceLT, Nat.reduceLeDiff, Nat.reduceEqDiff, ↓reduceIte, decide_true, decide_false, and_true, true_and, and_false, false_and, or_false, false_or, or_true, true_or, not_true_eq_false, not_false_eq_true, eq_self, Nat.zero_add, Nat.add_zero, Nat.mul_zero, Nat.mul_one, Nat.zero_le, Nat.not_lt_zero, bind_sm, bind_sm2, h1, h2, c]
      exact bad
