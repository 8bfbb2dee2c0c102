/-! home, order, detour -/
section EV
variable {m0 m1 m3 w : Mem} {v : Nat → Nat} {g : Nat}
def PHm (s i : Nat) : Prop := P26 s i ∨ P22 s i ∨ P30 s i ∨ (s = 0 ∧ i = 27)
def PlStep (v : Nat → Nat) (f7 : Option (Int32 × Mem)) (f8 : Option (Int32 × Mem)) (w : Mem) : Prop :=
  ∃ (a : Int32) (m3' w' : Mem), f7 = some (a, m3') ∧ f8 = some (a, w') ∧ Fr PHm w w' ∧ RPl v m3'
theorem s_home (hE : REv ((up m0 0 0 0) 6) ((up m0 0 0 0) 0 7) m1 v) (hR : RPl v m3) (x y : Int32) : PlStep v (f_X7_home m1 m3 x y) (f_X8_home m0 x y) (up m0 0 0 0) := by
  unfold f_X7_home f_X8_home
  rw [nm_eq (up m0 0 0 0)]
  generalize hw : up m0 0 0 0 = w at *
  obtain ⟨h1, hv, hc, ht, ht2⟩ := hE
  rw [ht]
  have none : ∀ a, PlStep v (some (a, m3)) (some (a, w)) w := fun a => ⟨a, m3, w, rfl, rfl, Fr.refl, hR⟩
  have h5 := hv.1.2.1
  have h4 := hv.1.1
  have c5 := hc.1.2.2.2.2.1
  rcases ht2 with t0 | t0
  · simp (maxSteps := 400000) (disch := omega) only [n32_lit, n32_add, n32_mul, n32_lt, n32_le, n32_eq, n32_nat, n32_inb, gd_dec, gdE, ↓nmE, ↓jnE, ↓bsE, Nat.reduceAdd, Nat.reduceMul, Nat.reduceSub, Nat.reduceLT, Nat.reduceLeDiff, Nat.reduceEqDiff, ↓reduceIte, decide_true, decide_false, and_true, true_and, and_false, false_and, or_false, false_or, or_true, true_or, not_true_eq_false, not_false_eq_true, eq_self, Nat.zero_add, Nat.add_zero, Nat.mul_zero, Nat.mul_one, Nat.zero_le, Nat.not_lt_zero, bind_sm, bind_sm2, t0]
    exact none _
  rcases b_min x with ⟨mn, hm, rfl, e5, e6⟩ | ⟨e5, e6⟩
  · obtain ⟨a, p1, p2, p3, p4⟩ := plan_ex hv mn
    obtain ⟨w', l1, l2, l3, l4, u, l5⟩ := t_layHome h1 hv hm
    have l5 : AR u w' (plan0 v (gs v mn (v 5))) := l5
    rw [p1] at l5
    obtain ⟨a1, a2, a3, a4, a5⟩ := l5
    obtain ⟨m3', q1, q2, q3, q4⟩ := t_plan hc hv hR mn
    rw [p1] at q4
    obtain ⟨b1, b2, b3, b4, b5⟩ := q4
    have cg := t_carsThatGo hc hv hm
    have p7 : 2 ^ v 4 ≤ 128 := Nat.pow_le_pow_right (n := 2) (by omega) h4
    have T3 := p3 3
    have bn := bitc_n (a := a.2.2 3) (by omega)
    have bt := t_bits (a := a.2.2 3) (by omega)
    have fr : Fr PHm w w' := l2
    rcases tri y (k := 2 + v 5) (by omega) with ⟨k, hk, rfl⟩ | q
    · have i1 := in_yes (b := (n32 (2 + v 5)).toInt64) (k := 2 + v 5) rfl hk (by omega)
      by_cases k2 : k ≤ 2
      · rcases (show k = 0 ∨ k = 1 ∨ k = 2 by omega) with rfl | rfl | rfl
        · refine ⟨n32 (pop7 (a.2.2 3)), m3', w', ?_, ?_, fr, q2⟩
          · simp (maxSteps := 400000) (disch := omega) only [n32_lit, n32_add, n32_mul, n32_lt, n32_le, n32_eq, n32_nat, n32_inb, gd_dec, gdE, ↓nmE, ↓jnE, ↓bsE, Nat.reduceAdd, Nat.reduceMul, Nat.reduceSub, Nat.reduceLT, Nat.reduceLeDiff, Nat.reduceEqDiff, ↓reduceIte, decide_true, decide_false, and_true, true_and, and_false, false_and, or_false, false_or, or_true, true_or, not_true_eq_false, not_false_eq_true, eq_self, Nat.zero_add, Nat.add_zero, Nat.mul_zero, Nat.mul_one, Nat.zero_le, Nat.not_lt_zero, bind_sm, bind_sm2, t0, e6, cg, q1, b4, bn]
          · simp (maxSteps := 400000) (disch := omega) only [n32_lit, n32_add, n32_mul, n32_lt, n32_le, n32_eq, n32_nat, n32_inb, gd_dec, gdE, ↓nmE, ↓jnE, ↓bsE, Nat.reduceAdd, Nat.reduceMul, Nat.reduceSub, Nat.reduceLT, Nat.reduceLeDiff, Nat.reduceEqDiff, ↓reduceIte, decide_true, decide_false, and_true, true_and, and_false, false_and, or_false, false_or, or_true, true_or, not_true_eq_false, not_false_eq_true, eq_self, Nat.zero_add, Nat.add_zero, Nat.mul_zero, Nat.mul_one, Nat.zero_le, Nat.not_lt_zero, bind_sm, bind_sm2, t0, e5, h1 5 (by decide), i1, l1, a4, bt]
        · refine ⟨n32 a.2.1, m3', w', ?_, ?_, fr, q2⟩
          · simp (maxSteps := 400000) (disch := omega) only [n32_lit, n32_add, n32_mul, n32_lt, n32_le, n32_eq, n32_nat, n32_inb, gd_dec, gdE, ↓nmE, ↓jnE, ↓bsE, Nat.reduceAdd, Nat.reduceMul, Nat.reduceSub, Nat.reduceLT, Nat.reduceLeDiff, Nat.reduceEqDiff, ↓reduceIte, decide_true, decide_false, and_true, true_and, and_false, false_and, or_false, false_or, or_true, true_or, not_true_eq_false, not_false_eq_true, eq_self, Nat.zero_add, Nat.add_zero, Nat.mul_zero, Nat.mul_one, Nat.zero_le, Nat.not_lt_zero, bind_sm, bind_sm2, t0, e6, cg, q1, b3]
          · simp (maxSteps := 400000) (disch := omega) only [n32_lit, n32_add, n32_mul, n32_lt, n32_le, n32_eq, n32_nat, n32_inb, gd_dec, gdE, ↓nmE, ↓jnE, ↓bsE, Nat.reduceAdd, Nat.reduceMul, Nat.reduceSub, Nat.reduceLT, Nat.reduceLeDiff, Nat.reduceEqDiff, ↓reduceIte, decide_true, decide_false, and_true, true_and, and_false, false_and, or_false, false_or, or_true, true_or, not_true_eq_false, not_false_eq_true, eq_self, Nat.zero_add, Nat.add_zero, Nat.mul_zero, Nat.mul_one, Nat.zero_le, Nat.not_lt_zero, bind_sm, bind_sm2, t0, e5, h1 5 (by decide), i1, l1, a3]
        · refine ⟨n32 (a.2.2 3), m3', w', ?_, ?_, fr, q2⟩
          · simp (maxSteps := 400000) (disch := omega) only [n32_lit, n32_add, n32_mul, n32_lt, n32_le, n32_eq, n32_nat, n32_inb, gd_dec, gdE, ↓nmE, ↓jnE, ↓bsE, Nat.reduceAdd, Nat.reduceMul, Nat.reduceSub, Nat.reduceLT, Nat.reduceLeDiff, Nat.reduceEqDiff, ↓reduceIte, decide_true, decide_false, and_true, true_and, and_false, false_and, or_false, false_or, or_true, true_or, not_true_eq_false, not_false_eq_true, eq_self, Nat.zero_add, Nat.add_zero, Nat.mul_zero, Nat.mul_one, Nat.zero_le, Nat.not_lt_zero, bind_sm, bind_sm2, t0, e6, cg, q1, b4]
          · simp (maxSteps := 400000) (disch := omega) only [n32_lit, n32_add, n32_mul, n32_lt, n32_le, n32_eq, n32_nat, n32_inb, gd_dec, gdE, ↓nmE, ↓jnE, ↓bsE, Nat.reduceAdd, Nat.reduceMul, Nat.reduceSub, Nat.reduceLT, Nat.reduceLeDiff, Nat.reduceEqDiff, ↓reduceIte, decide_true, decide_false, and_true, true_and, and_false, false_and, or_false, false_or, or_true, true_or, not_true_eq_false, not_false_eq_true, eq_self, Nat.zero_add, Nat.add_zero, Nat.mul_zero, Nat.mul_one, Nat.zero_le, Nat.not_lt_zero, bind_sm, bind_sm2, t0, e5, h1 5 (by decide), i1, l1, a4]
      · have es : n32 k - n32 3 = n32 (k - 3) := n32_sub (by omega)
        have hcar : f_X3_hasCar m1 (n32 (k - 3)) = some (n32 1) := by
          unfold f_X3_hasCar
          simp (disch := omega) only [n32_lit, n32_add, n32_mul, n32_lt, n32_le, n32_eq, n32_nat, n32_inb, gd_dec, gd_one, nm_eq, jn_eq, Option.bind_some, Nat.reduceAdd, Nat.reduceMul, Nat.reduceSub, Nat.reduceLT, Nat.reduceLeDiff, Nat.reduceEqDiff, ↓reduceIte, decide_true, decide_false, and_true, true_and, and_false, false_and, or_false, false_or, or_true, true_or, not_true_eq_false, not_false_eq_true, eq_self, Nat.zero_add, Nat.add_zero, Nat.mul_zero, Nat.mul_one, Nat.zero_le, Nat.not_lt_zero, bind_sm, bind_sm2, c5, show ¬ v 5 ≤ k - 3 by omega]
        refine ⟨n32 (a.2.2 (k - 3)), m3', w', ?_, ?_, fr, q2⟩
        · unfold f_X4_ridersOf
          simp (maxSteps := 400000) (disch := omega) only [n32_lit, n32_add, n32_mul, n32_lt, n32_le, n32_eq, n32_nat, n32_inb, gd_dec, gdE, ↓nmE, ↓jnE, ↓bsE, Nat.reduceAdd, Nat.reduceMul, Nat.reduceSub, Nat.reduceLT, Nat.reduceLeDiff, Nat.reduceEqDiff, ↓reduceIte, decide_true, decide_false, and_true, true_and, and_false, false_and, or_false, false_or, or_true, true_or, not_true_eq_false, not_false_eq_true, eq_self, Nat.zero_add, Nat.add_zero, Nat.mul_zero, Nat.mul_one, Nat.zero_le, Nat.not_lt_zero, bind_sm, bind_sm2, t0, e6, k2, es, hcar, cg, q1, show ¬ k = 0 by omega, show ¬ k = 1 by omega, show ¬ k = 2 by omega, show k - 3 < 3 by omega, b5 (k - 3) (by omega)]
        · simp (maxSteps := 400000) (disch := omega) only [n32_lit, n32_add, n32_mul, n32_lt, n32_le, n32_eq, n32_nat, n32_inb, gd_dec, gdE, ↓nmE, ↓jnE, ↓bsE, Nat.reduceAdd, Nat.reduceMul, Nat.reduceSub, Nat.reduceLT, Nat.reduceLeDiff, Nat.reduceEqDiff, ↓reduceIte, decide_true, decide_false, and_true, true_and, and_false, false_and, or_false, false_or, or_true, true_or, not_true_eq_false, not_false_eq_true, eq_self, Nat.zero_add, Nat.add_zero, Nat.mul_zero, Nat.mul_one, Nat.zero_le, Nat.not_lt_zero, bind_sm, bind_sm2, t0, e5, h1 5 (by decide), i1, l1, show ¬ k = 0 by omega, show ¬ k = 1 by omega, show ¬ k = 2 by omega, es, show k - 3 < 3 by omega, a5 (k - 3) (by omega)]
    · have i1 := in_no (b := (n32 (2 + v 5)).toInt64) (k := 2 + v 5) rfl (by omega) q
      rcases n32_or y with ⟨k, hk, rfl⟩ | hneg
      · have kb : 2 + v 5 < k := by rw [n32_lt hk (by omega), n32_lt (by omega) hk] at q; omega
        have es : n32 k - n32 3 = n32 (k - 3) := n32_sub (by omega)
        have hcar : f_X3_hasCar m1 (n32 (k - 3)) = some (n32 0) := by
          unfold f_X3_hasCar
          simp (disch := omega) only [n32_lit, n32_add, n32_mul, n32_lt, n32_le, n32_eq, n32_nat, n32_inb, gd_dec, gd_one, nm_eq, jn_eq, Option.bind_some, Nat.reduceAdd, Nat.reduceMul, Nat.reduceSub, Nat.reduceLT, Nat.reduceLeDiff, Nat.reduceEqDiff, ↓reduceIte, decide_true, decide_false, and_true, true_and, and_false, false_and, or_false, false_or, or_true, true_or, not_true_eq_false, not_false_eq_true, eq_self, Nat.zero_add, Nat.add_zero, Nat.mul_zero, Nat.mul_one, Nat.zero_le, Nat.not_lt_zero, bind_sm, bind_sm2, c5, show v 5 ≤ k - 3 by omega]
        simp (maxSteps := 400000) (disch := omega) only [n32_lit, n32_add, n32_mul, n32_lt, n32_le, n32_eq, n32_nat, n32_inb, gd_dec, gdE, ↓nmE, ↓jnE, ↓bsE, Nat.reduceAdd, Nat.reduceMul, Nat.reduceSub, Nat.reduceLT, Nat.reduceLeDiff, Nat.reduceEqDiff, ↓reduceIte, decide_true, decide_false, and_true, true_and, and_false, false_and, or_false, false_or, or_true, true_or, not_true_eq_false, not_false_eq_true, eq_self, Nat.zero_add, Nat.add_zero, Nat.mul_zero, Nat.mul_one, Nat.zero_le, Nat.not_lt_zero, bind_sm, bind_sm2, t0, e5, e6, h1 5 (by decide), i1, show ¬ k ≤ 2 by omega, es, hcar]
        exact none _
      · have hneg' : (y < n32 0) = True := eq_true hneg
        simp (maxSteps := 400000) (disch := omega) only [n32_lit, n32_add, n32_mul, n32_lt, n32_le, n32_eq, n32_nat, n32_inb, gd_dec, gdE, ↓nmE, ↓jnE, ↓bsE, Nat.reduceAdd, Nat.reduceMul, Nat.reduceSub, Nat.reduceLT, Nat.reduceLeDiff, Nat.reduceEqDiff, ↓reduceIte, decide_true, decide_false, and_true, true_and, and_false, false_and, or_false, false_or, or_true, true_or, not_true_eq_false, not_false_eq_true, eq_self, Nat.zero_add, Nat.add_zero, Nat.mul_zero, Nat.mul_one, Nat.zero_le, Nat.not_lt_zero, bind_sm, bind_sm2, t0, e5, e6, h1 5 (by decide), i1, hneg']
        exact none _
  · simp (maxSteps := 400000) (disch := omega) only [n32_lit, n32_add, n32_mul, n32_lt, n32_le, n32_eq, n32_nat, n32_inb, gd_dec, gdE, ↓nmE, ↓jnE, ↓bsE, Nat.reduceAdd, Nat.reduceMul, Nat.reduceSub, Nat.reduceLT, Nat.reduceLeDiff, Nat.reduceEqDiff, ↓reduceIte, decide_true, decide_false, and_true, true_and, and_false, false_and, or_false, false_or, or_true, true_or, not_true_eq_false, not_false_eq_true, eq_self, Nat.zero_add, Nat.add_zero, Nat.mul_zero, Nat.mul_one, Nat.zero_le, Nat.not_lt_zero, bind_sm, bind_sm2, t0, e5, e6]
    exact none _
theorem leastOf_fr {X : Nat} {w' w'' : Mem} (h : Fr PHm w w') (h' : Fr P235 w' w'') : Fr PHm w w'' := h.trans (h'.mono (fun s i z => by unfold PHm P22; unfold P235 at z; omega))
theorem pl_fr {m3' : Mem} (h : RPl v m3) (hf : Fr PW m3 m3') : RPl v m3' := by
  obtain ⟨k1, k2, k3⟩ := h
  refine ⟨fun c X hc hX => ?_, fun c hc => ?_, ?_⟩
  · rw [hf 1 _ (by unfold PW; omega)]; exact k1 c X hc hX
  · rw [hf 7 _ (by unfold PW; omega)]; exact k2 c hc
  · rw [hf 0 2 (by unfold PW; omega)]
    rcases k3 with k3 | ⟨g, a, b, c⟩
    · exact Or.inl k3
    · exact Or.inr ⟨g, a, b, c.fr (fun i _ _ => hf 0 i (by unfold PW; omega)) (fun c => hf 2 c (by unfold PW; omega))⟩
theorem pl_frM {m3' : Mem} (h : RPl v m3) (hf : Fr PM m3 m3') (hk : KN v m3') : RPl v m3' := by
  obtain ⟨k1, k2, k3⟩ := h
  refine ⟨hk, fun c hc => ?_, ?_⟩
  · rw [hf 7 _ (by unfold PM; omega)]; exact k2 c hc
  · rw [hf 0 2 (by unfold PM; omega)]
    rcases k3 with k3 | ⟨g, a, b, c⟩
    · exact Or.inl k3
    · exact Or.inr ⟨g, a, b, c.fr (fun i _ _ => hf 0 i (by unfold PM; omega)) (fun c => hf 2 c (by unfold PM; omega))⟩
theorem neg1_dn {x : Int32} (h : -n32 1 ≤ x) (h0 : ¬ n32 0 ≤ x) : x = -n32 1 := by
  apply Int32.toInt_inj.mp
  rw [Int32.le_iff_toInt_le] at h h0
  have e0 : (n32 0).toInt = 0 := rfl
  have e1 : (-n32 1).toInt = -1 := rfl
  omega
theorem s_order (hE : REv ((up m0 0 0 0) 6) ((up m0 0 0 0) 0 7) m1 v) (hR : RPl v m3) (x y z : Int32) : PlStep v (f_X7_order m1 m3 x y z) (f_X8_order m0 x y z) (up m0 0 0 0) := by
  unfold f_X7_order f_X8_order
  rw [nm_eq (up m0 0 0 0)]
  generalize hw : up m0 0 0 0 = w at *
  have hE' := hE
  obtain ⟨h1, hv, hc, ht, ht2⟩ := hE'
  have none : ∀ a, PlStep v (some (a, m3)) (some (a, w)) w := fun a => ⟨a, m3, w, rfl, rfl, Fr.refl, hR⟩
  have h5 := hv.1.2.1
  have h4 := hv.1.1
  rcases b_min x with ⟨mn, hm, rfl, e5, e6⟩ | ⟨e5, e6⟩
  · rcases b_car hE y with ⟨c, hcc, rfl, e1, e2⟩ | ⟨e1, e2⟩
    · by_cases zk : -n32 1 ≤ z
      · obtain ⟨a, p1, p2, p3, p4⟩ := plan_ex hv mn
        obtain ⟨w', l1, l2, l3, l4, u, l5⟩ := t_layHome h1 hv hm
        have l5 : AR u w' (plan0 v (gs v mn (v 5))) := l5
        rw [p1] at l5
        obtain ⟨a1, a2, a3, a4, a5⟩ := l5
        obtain ⟨m3', q1, q2, q3, q4⟩ := t_plan hc hv hR mn
        rw [p1] at q4
        obtain ⟨b1, b2, b3, b4, b5⟩ := q4
        have cg := t_carsThatGo hc hv hm
        have gv := gs_gv hv mn
        have g8 := gv.1
        have p7 : 2 ^ v 4 ≤ 128 := Nat.pow_le_pow_right (n := 2) (by omega) h4
        have fr : Fr PHm w w' := l2
        have sh' : Sh (w' 6) v := by rw [fr.row 6 (fun i => by unfold PHm P26 P22 P30; omega)]; exact h1
        generalize hgg : gs v mn (v 5) = g at *
        cases hb : g.testBit c with
        | false =>
          refine ⟨-n32 1000000, m3, w', ?_, ?_, fr, hR⟩
          · simp (maxSteps := 400000) (disch := omega) only [n32_lit, n32_add, n32_mul, n32_lt, n32_le, n32_eq, n32_nat, n32_inb, gd_dec, gdE, ↓nmE, ↓jnE, ↓bsE, Nat.reduceAdd, Nat.reduceMul, Nat.reduceSub, Nat.reduceLT, Nat.reduceLeDiff, Nat.reduceEqDiff, ↓reduceIte, decide_true, decide_false, and_true, true_and, and_false, false_and, or_false, false_or, or_true, true_or, not_true_eq_false, not_false_eq_true, eq_self, Nat.zero_add, Nat.add_zero, Nat.mul_zero, Nat.mul_one, Nat.zero_le, Nat.not_lt_zero, bind_sm, bind_sm2, e6, e2, zk, cg, t_hasBit, n32_b0, hb, Bool.toNat_false]
          · simp (maxSteps := 400000) (disch := omega) only [n32_lit, n32_add, n32_mul, n32_lt, n32_le, n32_eq, n32_nat, n32_inb, gd_dec, gdE, ↓nmE, ↓jnE, ↓bsE, Nat.reduceAdd, Nat.reduceMul, Nat.reduceSub, Nat.reduceLT, Nat.reduceLeDiff, Nat.reduceEqDiff, ↓reduceIte, decide_true, decide_false, and_true, true_and, and_false, false_and, or_false, false_or, or_true, true_or, not_true_eq_false, not_false_eq_true, eq_self, Nat.zero_add, Nat.add_zero, Nat.mul_zero, Nat.mul_one, Nat.zero_le, Nat.not_lt_zero, bind_sm, bind_sm2, e5, e1, zk, l1, l3, n32_bit, n32_b0, hb, Bool.toNat_false]
        | true =>
          have fi := (p2 c (by omega)).1 hb
          have jx := fit_jx hv hcc (p3 c) fi
          have lf := lst_facts hv jx
          have Tc := p3 c
          obtain ⟨w2, o1, o2, o3⟩ := t_leastOf sh' hv hcc (p3 c) jx.2.1
          have fr2 : Fr PHm w w2 := leastOf_fr (X := 0) fr o2
          have w226 : w2 26 c = n32 (a.2.2 c) := by rw [o2 26 c (by unfold P235; omega)]; exact a5 c (by omega)
          have bt := t_bits (a := a.2.2 c) (by omega)
          by_cases z0 : n32 0 ≤ z
          · obtain ⟨k, hk, rfl⟩ : ∃ k, k < 2147483648 ∧ z = n32 k := by
              rcases n32_or z with h | h
              · exact h
              · rw [← i32_nlt] at z0; exact absurd h z0
            have zn : (n32 k = -n32 1) = False := n32_ne1' hk
            obtain ⟨m4, s1, s2⟩ := t_setDown (m3 := m3') hc hv hcc jx hk
            refine ⟨if k < pop7 (a.2.2 c) then n32 ((lst v c (a.2.2 c)).2.getD k 0) else -n32 1000000, m4, w2, ?_, ?_, fr2, pl_fr q2 s2⟩
            · unfold f_X4_ridersOf
              simp (maxSteps := 400000) (disch := omega) only [n32_lit, n32_add, n32_mul, n32_lt, n32_le, n32_eq, n32_nat, n32_inb, gd_dec, gdE, ↓nmE, ↓jnE, ↓bsE, Nat.reduceAdd, Nat.reduceMul, Nat.reduceSub, Nat.reduceLT, Nat.reduceLeDiff, Nat.reduceEqDiff, ↓reduceIte, decide_true, decide_false, and_true, true_and, and_false, false_and, or_false, false_or, or_true, true_or, not_true_eq_false, not_false_eq_true, eq_self, Nat.zero_add, Nat.add_zero, Nat.mul_zero, Nat.mul_one, Nat.zero_le, Nat.not_lt_zero, bind_sm, bind_sm2, e6, e2, zk, cg, t_hasBit, n32_b0, hb, Bool.toNat_true, q1, show c < 3 by omega, b5 c (by omega), zn, s1]
            · by_cases kq : k < pop7 (a.2.2 c)
              · rw [if_pos kq]
                have o3k := o3 k (by rw [lf.2.1]; exact kq)
                have p44 := jx.2.1
                simp (maxSteps := 400000) (disch := omega) only [n32_lit, n32_add, n32_mul, n32_lt, n32_le, n32_eq, n32_nat, n32_inb, gd_dec, gdE, ↓nmE, ↓jnE, ↓bsE, Nat.reduceAdd, Nat.reduceMul, Nat.reduceSub, Nat.reduceLT, Nat.reduceLeDiff, Nat.reduceEqDiff, ↓reduceIte, decide_true, decide_false, and_true, true_and, and_false, false_and, or_false, false_or, or_true, true_or, not_true_eq_false, not_false_eq_true, eq_self, Nat.zero_add, Nat.add_zero, Nat.mul_zero, Nat.mul_one, Nat.zero_le, Nat.not_lt_zero, bind_sm, bind_sm2, e5, e1, zk, l1, l3, n32_bit, n32_b0, hb, Bool.toNat_true, show c < 3 by omega, a5 c (by omega), o1, w226, bt, show ¬ pop7 (a.2.2 c) ≤ k by omega, show k < 4 by omega, o3k]
              · rw [if_neg kq]
                have pl := pop7_le (a.2.2 c)
                simp (maxSteps := 400000) (disch := omega) only [n32_lit, n32_add, n32_mul, n32_lt, n32_le, n32_eq, n32_nat, n32_inb, gd_dec, gdE, ↓nmE, ↓jnE, ↓bsE, Nat.reduceAdd, Nat.reduceMul, Nat.reduceSub, Nat.reduceLT, Nat.reduceLeDiff, Nat.reduceEqDiff, ↓reduceIte, decide_true, decide_false, and_true, true_and, and_false, false_and, or_false, false_or, or_true, true_or, not_true_eq_false, not_false_eq_true, eq_self, Nat.zero_add, Nat.add_zero, Nat.mul_zero, Nat.mul_one, Nat.zero_le, Nat.not_lt_zero, bind_sm, bind_sm2, e5, e1, zk, l1, l3, n32_bit, n32_b0, hb, Bool.toNat_true, show c < 3 by omega, a5 c (by omega), o1, w226, bt, show pop7 (a.2.2 c) ≤ k by omega]
          · have zm := neg1_dn zk z0
            subst zm
            obtain ⟨m4, s1, s2, s3⟩ := t_minutesOf hc hv hcc jx q2.1
            refine ⟨n32 (lst v c (a.2.2 c)).1, m4, w2, ?_, ?_, fr2, pl_frM q2 s2 s3⟩
            · unfold f_X4_ridersOf
              simp (maxSteps := 400000) (disch := omega) only [n32_lit, n32_add, n32_mul, n32_lt, n32_le, n32_eq, n32_nat, n32_inb, gd_dec, gdE, ↓nmE, ↓jnE, ↓bsE, Nat.reduceAdd, Nat.reduceMul, Nat.reduceSub, Nat.reduceLT, Nat.reduceLeDiff, Nat.reduceEqDiff, ↓reduceIte, decide_true, decide_false, and_true, true_and, and_false, false_and, or_false, false_or, or_true, true_or, not_true_eq_false, not_false_eq_true, eq_self, Nat.zero_add, Nat.add_zero, Nat.mul_zero, Nat.mul_one, Nat.zero_le, Nat.not_lt_zero, bind_sm, bind_sm2, e6, e2, zk, cg, t_hasBit, n32_b0, hb, Bool.toNat_true, q1, show c < 3 by omega, b5 c (by omega), s1]
            · simp (maxSteps := 400000) (disch := omega) only [n32_lit, n32_add, n32_mul, n32_lt, n32_le, n32_eq, n32_nat, n32_inb, gd_dec, gdE, ↓nmE, ↓jnE, ↓bsE, Nat.reduceAdd, Nat.reduceMul, Nat.reduceSub, Nat.reduceLT, Nat.reduceLeDiff, Nat.reduceEqDiff, ↓reduceIte, decide_true, decide_false, and_true, true_and, and_false, false_and, or_false, false_or, or_true, true_or, not_true_eq_false, not_false_eq_true, eq_self, Nat.zero_add, Nat.add_zero, Nat.mul_zero, Nat.mul_one, Nat.zero_le, Nat.not_lt_zero, bind_sm, bind_sm2, e5, e1, zk, l1, l3, n32_bit, n32_b0, hb, Bool.toNat_true, show c < 3 by omega, a5 c (by omega), o1, z0]
      · simp (maxSteps := 400000) (disch := omega) only [n32_lit, n32_add, n32_mul, n32_lt, n32_le, n32_eq, n32_nat, n32_inb, gd_dec, gdE, ↓nmE, ↓jnE, ↓bsE, Nat.reduceAdd, Nat.reduceMul, Nat.reduceSub, Nat.reduceLT, Nat.reduceLeDiff, Nat.reduceEqDiff, ↓reduceIte, decide_true, decide_false, and_true, true_and, and_false, false_and, or_false, false_or, or_true, true_or, not_true_eq_false, not_false_eq_true, eq_self, Nat.zero_add, Nat.add_zero, Nat.mul_zero, Nat.mul_one, Nat.zero_le, Nat.not_lt_zero, bind_sm, bind_sm2, e5, e6, e1, e2, zk]
        exact none _
    · simp (maxSteps := 400000) (disch := omega) only [n32_lit, n32_add, n32_mul, n32_lt, n32_le, n32_eq, n32_nat, n32_inb, gd_dec, gdE, ↓nmE, ↓jnE, ↓bsE, Nat.reduceAdd, Nat.reduceMul, Nat.reduceSub, Nat.reduceLT, Nat.reduceLeDiff, Nat.reduceEqDiff, ↓reduceIte, decide_true, decide_false, and_true, true_and, and_false, false_and, or_false, false_or, or_true, true_or, not_true_eq_false, not_false_eq_true, eq_self, Nat.zero_add, Nat.add_zero, Nat.mul_zero, Nat.mul_one, Nat.zero_le, Nat.not_lt_zero, bind_sm, bind_sm2, e5, e6, e1, e2]
      exact none _
  · simp (maxSteps := 400000) (disch := omega) only [n32_lit, n32_add, n32_mul, n32_lt, n32_le, n32_eq, n32_nat, n32_inb, gd_dec, gdE, ↓nmE, ↓jnE, ↓bsE, Nat.reduceAdd, Nat.reduceMul, Nat.reduceSub, Nat.reduceLT, Nat.reduceLeDiff, Nat.reduceEqDiff, ↓reduceIte, decide_true, decide_false, and_true, true_and, and_false, false_and, or_false, false_or, or_true, true_or, not_true_eq_false, not_false_eq_true, eq_self, Nat.zero_add, Nat.add_zero, Nat.mul_zero, Nat.mul_one, Nat.zero_le, Nat.not_lt_zero, bind_sm, bind_sm2, e5, e6]
    exact none _
theorem jx_wo (hv : Vd v) {c X p : Nat} (hp : p < 7) (h : JX v c X) : JX v c (wo X p) := by
  have hX7 := h.1.lt hv.1.1
  refine ⟨Nat.lt_of_le_of_lt wo_lt h.1, ?_, fun q hq => h.2.2.1 q (wo_bit hX7 hp hq), h.2.2.2⟩
  have : ∀ X, X < 128 → ∀ p, p < 7 → pop7 (wo X p) ≤ pop7 X := by decide +kernel
  exact Nat.le_trans (this X hX7 p hp) h.2.1
theorem s_detour (hE : REv ((up m0 0 0 0) 6) ((up m0 0 0 0) 0 7) m1 v) (hR : RPl v m3) (x y : Int32) : PlStep v (f_X7_detour m1 m3 x y) (f_X8_detour m0 x y) (up m0 0 0 0) := by
  unfold f_X7_detour f_X8_detour
  rw [nm_eq (up m0 0 0 0)]
  generalize hw : up m0 0 0 0 = w at *
  have hE' := hE
  obtain ⟨h1, hv, hc, ht, ht2⟩ := hE'
  have none : ∀ a, PlStep v (some (a, m3)) (some (a, w)) w := fun a => ⟨a, m3, w, rfl, rfl, Fr.refl, hR⟩
  have h5 := hv.1.2.1
  have h4 := hv.1.1
  have c5 := hc.1.2.2.2.2.1
  rcases b_min x with ⟨mn, hm, rfl, e5, e6⟩ | ⟨e5, e6⟩
  · rcases b_person hE y with ⟨p, hp, rfl, e1, e2⟩ | ⟨e1, e2⟩
    · obtain ⟨a, p1, p2, p3, p4⟩ := plan_ex hv mn
      obtain ⟨w', l1, l2, l3, l4, u, l5⟩ := t_layHome h1 hv hm
      have l5 : AR u w' (plan0 v (gs v mn (v 5))) := l5
      rw [p1] at l5
      obtain ⟨a1, a2, a3, a4, a5⟩ := l5
      obtain ⟨m3', q1, q2, q3, q4⟩ := t_plan hc hv hR mn
      rw [p1] at q4
      obtain ⟨b1, b2, b3, b4, b5⟩ := q4
      have cg := t_carsThatGo hc hv hm
      have gv := gs_gv hv mn
      have g8 := gv.1
      have p7 : 2 ^ v 4 ≤ 128 := Nat.pow_le_pow_right (n := 2) (by omega) h4
      have fr : Fr PHm w w' := l2
      have sh' : Sh (w' 6) v := by rw [fr.row 6 (fun i => by unfold PHm P26 P22 P30; omega)]; exact h1
      generalize hgg : gs v mn (v 5) = g at *
      have key : ok2 (fun (r : Int32 × Mem) (s : Int32 × Mem) => r.1 = s.1 ∧ Fr PHm w s.2 ∧ RPl v r.2) (f_X7_detour_L42 (fun (u22 : Int32) (w23 : Mem) => (some (-n32 1000000, w23))) (n32 p) m1 100000 (n32 0) m3') (f_X8_detour_L30 (fun (u18 : Int32) (w19 : Mem) => (some (-n32 1000000, w19))) (n32 p) 100000 (n32 0) w') := by
        refine loop_two (S7 := Unit) (S8 := Unit) (fun t u _ => f_X7_detour_L42 (fun (u22 : Int32) (w23 : Mem) => (some (-n32 1000000, w23))) (n32 p) m1 t u m3') (fun t u _ => f_X8_detour_L30 (fun (u18 : Int32) (w19 : Mem) => (some (-n32 1000000, w19))) (n32 p) t u w') (v 5) (fun _ _ _ => True) _ ?_ ?_ (v 5) 0 () () 100000 100000 (by omega) (by omega) (by omega) trivial
        · intro t t' s s' _
          refine ok2_eq (f_X7_detour_L42.eq_2 _ _ _ _ _ _) (f_X8_detour_L30.eq_2 _ _ _ _ _) ?_
          simp (maxSteps := 400000) (disch := omega) only [n32_lit, n32_add, n32_mul, n32_lt, n32_le, n32_eq, n32_nat, n32_inb, gd_dec, gdE, ↓nmE, ↓jnE, ↓bsE, Nat.reduceAdd, Nat.reduceMul, Nat.reduceSub, Nat.reduceLT, Nat.reduceLeDiff, Nat.reduceEqDiff, ↓reduceIte, decide_true, decide_false, and_true, true_and, and_false, false_and, or_false, false_or, or_true, true_or, not_true_eq_false, not_false_eq_true, eq_self, Nat.zero_add, Nat.add_zero, Nat.mul_zero, Nat.mul_one, Nat.zero_le, Nat.not_lt_zero, bind_sm, bind_sm2, c5, sh' 5 (by decide), Nat.le_refl]
          exact ok2_some ⟨rfl, fr, q2⟩
        · intro c t t' s s' hcc _
          have Tc := p3 c
          have T7 := b5 c (by omega)
          have T8 := a5 c (by omega)
          cases hb : (a.2.2 c).testBit p with
          | false =>
            left
            refine ⟨(), (), trivial, ?_, ?_⟩
            · refine Eq.trans (f_X7_detour_L42.eq_2 _ _ _ _ _ _) ?_
              unfold f_X4_ridersOf
              simp (disch := omega) only [n32_lit, n32_add, n32_mul, n32_lt, n32_le, n32_eq, n32_nat, n32_inb, gd_dec, gd_one, nm_eq, jn_eq, Option.bind_some, Nat.reduceAdd, Nat.reduceMul, Nat.reduceSub, Nat.reduceLT, Nat.reduceLeDiff, Nat.reduceEqDiff, ↓reduceIte, decide_true, decide_false, and_true, true_and, and_false, false_and, or_false, false_or, or_true, true_or, not_true_eq_false, not_false_eq_true, eq_self, Nat.zero_add, Nat.add_zero, Nat.mul_zero, Nat.mul_one, Nat.zero_le, Nat.not_lt_zero, bind_sm, bind_sm2, c5, show ¬ v 5 ≤ c by omega, show c < 3 by omega, T7, t_hasBit, n32_b0, hb, Bool.toNat_false]
            · refine Eq.trans (f_X8_detour_L30.eq_2 _ _ _ _ _) ?_
              simp (disch := omega) only [n32_lit, n32_add, n32_mul, n32_lt, n32_le, n32_eq, n32_nat, n32_inb, gd_dec, gd_one, nm_eq, jn_eq, Option.bind_some, Nat.reduceAdd, Nat.reduceMul, Nat.reduceSub, Nat.reduceLT, Nat.reduceLeDiff, Nat.reduceEqDiff, ↓reduceIte, decide_true, decide_false, and_true, true_and, and_false, false_and, or_false, false_or, or_true, true_or, not_true_eq_false, not_false_eq_true, eq_self, Nat.zero_add, Nat.add_zero, Nat.mul_zero, Nat.mul_one, Nat.zero_le, Nat.not_lt_zero, bind_sm, bind_sm2, sh' 5 (by decide), show ¬ v 5 ≤ c by omega, show c < 3 by omega, T8, n32_bit, n32_b1, hb, Bool.toNat_false]
          | true =>
            right
            -- the car goes: nobody is in one that doesn't
            have gb : g.testBit c = true := by
              cases gb : g.testBit c
              · have := (p2 c (by omega)).2 gb
                rw [this, Nat.zero_testBit] at hb; cases hb
              · rfl
            have fi := (p2 c (by omega)).1 gb
            have jx := fit_jx hv hcc (p3 c) fi
            have jw := jx_wo hv (p := p) (by omega) jx
            have w1 := n32_without (a := a.2.2 c) (i := p) (by omega) (by omega)
            have w1' : n32 (a.2.2 c) &&& ((n32 1 <<< (n32 p &&& n32 31)) ^^^ (-n32 1)) = n32 (wo (a.2.2 c) p) := w1
            obtain ⟨m4, s1, s2, s3⟩ := t_minutesOf hc hv hcc jx q2.1
            obtain ⟨m5, s4, s5, s6⟩ := t_minutesOf hc hv hcc jw s3
            obtain ⟨w2, o1, o2, o3⟩ := t_leastOf sh' hv hcc jw.1 jw.2.1
            have tk : w' 22 (128 * c + a.2.2 c) = n32 (lst v c (a.2.2 c)).1 := by
              rw [l4 c (by omega) _ (by omega)]
              unfold tkv
              rw [if_pos ⟨gb, Tc, fi⟩]
            have e7 : f_X7_detour_L42 (fun (u22 : Int32) (w23 : Mem) => (some (-n32 1000000, w23))) (n32 p) m1 (t + 1) (n32 c) m3' = some (n32 (lst v c (a.2.2 c)).1 - n32 (lst v c (wo (a.2.2 c) p)).1, m5) := by
              refine Eq.trans (f_X7_detour_L42.eq_2 _ _ _ _ _ _) ?_
              unfold f_X4_ridersOf
              simp (disch := omega) only [n32_lit, n32_add, n32_mul, n32_lt, n32_le, n32_eq, n32_nat, n32_inb, gd_dec, gd_one, nm_eq, jn_eq, Option.bind_some, Nat.reduceAdd, Nat.reduceMul, Nat.reduceSub, Nat.reduceLT, Nat.reduceLeDiff, Nat.reduceEqDiff, ↓reduceIte, decide_true, decide_false, and_true, true_and, and_false, false_and, or_false, false_or, or_true, true_or, not_true_eq_false, not_false_eq_true, eq_self, Nat.zero_add, Nat.add_zero, Nat.mul_zero, Nat.mul_one, Nat.zero_le, Nat.not_lt_zero, bind_sm, bind_sm2, c5, show ¬ v 5 ≤ c by omega, show c < 3 by omega, T7, t_hasBit, n32_b0, hb, Bool.toNat_true, w1', s1, s4]
            have e8 : f_X8_detour_L30 (fun (u18 : Int32) (w19 : Mem) => (some (-n32 1000000, w19))) (n32 p) (t' + 1) (n32 c) w' = some (n32 (lst v c (a.2.2 c)).1 - n32 (lst v c (wo (a.2.2 c) p)).1, w2) := by
              refine Eq.trans (f_X8_detour_L30.eq_2 _ _ _ _ _) ?_
              simp (disch := omega) only [n32_lit, n32_add, n32_mul, n32_lt, n32_le, n32_eq, n32_nat, n32_inb, gd_dec, gd_one, nm_eq, jn_eq, Option.bind_some, Nat.reduceAdd, Nat.reduceMul, Nat.reduceSub, Nat.reduceLT, Nat.reduceLeDiff, Nat.reduceEqDiff, ↓reduceIte, decide_true, decide_false, and_true, true_and, and_false, false_and, or_false, false_or, or_true, true_or, not_true_eq_false, not_false_eq_true, eq_self, Nat.zero_add, Nat.add_zero, Nat.mul_zero, Nat.mul_one, Nat.zero_le, Nat.not_lt_zero, bind_sm, bind_sm2, sh' 5 (by decide), show ¬ v 5 ≤ c by omega, show c < 3 by omega, T8, n32_bit, n32_b1, hb, Bool.toNat_true, w1', o1, tk, show 128 * c + a.2.2 c < 384 by omega]
            exact ⟨_, _, e7, e8, rfl, leastOf_fr (X := 0) fr o2, pl_frM (pl_frM q2 s2 s3) s5 s6⟩
      obtain ⟨r, s, k1, k2, k3, k4, k5⟩ := key
      refine ⟨r.1, r.2, s.2, ?_, ?_, k4, k5⟩
      · simp (maxSteps := 400000) (disch := omega) only [n32_lit, n32_add, n32_mul, n32_lt, n32_le, n32_eq, n32_nat, n32_inb, gd_dec, gdE, ↓nmE, ↓jnE, ↓bsE, Nat.reduceAdd, Nat.reduceMul, Nat.reduceSub, Nat.reduceLT, Nat.reduceLeDiff, Nat.reduceEqDiff, ↓reduceIte, decide_true, decide_false, and_true, true_and, and_false, false_and, or_false, false_or, or_true, true_or, not_true_eq_false, not_false_eq_true, eq_self, Nat.zero_add, Nat.add_zero, Nat.mul_zero, Nat.mul_one, Nat.zero_le, Nat.not_lt_zero, bind_sm, bind_sm2, e6, e2, cg, q1, k1]
      · simp (maxSteps := 400000) (disch := omega) only [n32_lit, n32_add, n32_mul, n32_lt, n32_le, n32_eq, n32_nat, n32_inb, gd_dec, gdE, ↓nmE, ↓jnE, ↓bsE, Nat.reduceAdd, Nat.reduceMul, Nat.reduceSub, Nat.reduceLT, Nat.reduceLeDiff, Nat.reduceEqDiff, ↓reduceIte, decide_true, decide_false, and_true, true_and, and_false, false_and, or_false, false_or, or_true, true_or, not_true_eq_false, not_false_eq_true, eq_self, Nat.zero_add, Nat.add_zero, Nat.mul_zero, Nat.mul_one, Nat.zero_le, Nat.not_lt_zero, bind_sm, bind_sm2, e5, e1, l1, k2, k3]
    · simp (maxSteps := 400000) (disch := omega) only [n32_lit, n32_add, n32_mul, n32_lt, n32_le, n32_eq, n32_nat, n32_inb, gd_dec, gdE, ↓nmE, ↓jnE, ↓bsE, Nat.reduceAdd, Nat.reduceMul, Nat.reduceSub, Nat.reduceLT, Nat.reduceLeDiff, Nat.reduceEqDiff, ↓reduceIte, decide_true, decide_false, and_true, true_and, and_false, false_and, or_false, false_or, or_true, true_or, not_true_eq_false, not_false_eq_true, eq_self, Nat.zero_add, Nat.add_zero, Nat.mul_zero, Nat.mul_one, Nat.zero_le, Nat.not_lt_zero, bind_sm, bind_sm2, e5, e6, e1, e2]
      exact none _
  · simp (maxSteps := 400000) (disch := omega) only [n32_lit, n32_add, n32_mul, n32_lt, n32_le, n32_eq, n32_nat, n32_inb, gd_dec, gdE, ↓nmE, ↓jnE, ↓bsE, Nat.reduceAdd, Nat.reduceMul, Nat.reduceSub, Nat.reduceLT, Nat.reduceLeDiff, Nat.reduceEqDiff, ↓reduceIte, decide_true, decide_false, and_true, true_and, and_false, false_and, or_false, false_or, or_true, true_or, not_true_eq_false, not_false_eq_true, eq_self, Nat.zero_add, Nat.add_zero, Nat.mul_zero, Nat.mul_one, Nat.zero_le, Nat.not_lt_zero, bind_sm, bind_sm2, e5, e6]
    exact none _
end EV
