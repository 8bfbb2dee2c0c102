/-! two loops side by side -/
def ok2 {R7 R8 : Type} (Q : R7 → R8 → Prop) (x : Option R7) (y : Option R8) : Prop := ∃ r s, x = some r ∧ y = some s ∧ Q r s
theorem ok2_eq {R7 R8 : Type} {Q : R7 → R8 → Prop} {x x' : Option R7} {y y' : Option R8} (e : x = x') (e' : y = y') (h : ok2 Q x' y') : ok2 Q x y := by rw [e, e']; exact h
theorem ok2_some {R7 R8 : Type} {Q : R7 → R8 → Prop} {r : R7} {s : R8} (h : Q r s) : ok2 Q (some r) (some s) := ⟨r, s, rfl, rfl, h⟩
theorem ok2_bind {R7 R8 S7 S8 : Type} {Q : R7 → R8 → Prop} {x : Option S7} {y : Option S8} {f : S7 → Option R7} {g : S8 → Option R8} (h : ok2 (fun r s => ok2 Q (f r) (g s)) x y) : ok2 Q (x.bind f) (y.bind g) := by
  obtain ⟨r, s, e1, e2, h⟩ := h
  rw [e1, e2]; exact h
theorem ok2_mono {R7 R8 : Type} {P Q : R7 → R8 → Prop} {x : Option R7} {y : Option R8} (h : ok2 P x y) (hp : ∀ r s, P r s → Q r s) : ok2 Q x y := by
  obtain ⟨r, s, e1, e2, h⟩ := h
  exact ⟨r, s, e1, e2, hp r s h⟩
theorem loop_two {S7 S8 R7 R8 : Type} (F7 : Nat → Int32 → S7 → Option R7) (F8 : Nat → Int32 → S8 → Option R8) (hi : Nat) (I : Nat → S7 → S8 → Prop) (Q : R7 → R8 → Prop)
    (hstop : ∀ t t' s s', I hi s s' → ok2 Q (F7 (t + 1) (n32 hi) s) (F8 (t' + 1) (n32 hi) s'))
    (hstep : ∀ i t t' s s', i < hi → I i s s' → (∃ s1 s1', I (i + 1) s1 s1' ∧ F7 (t + 1) (n32 i) s = F7 t (n32 (i + 1)) s1 ∧ F8 (t' + 1) (n32 i) s' = F8 t' (n32 (i + 1)) s1') ∨ ok2 Q (F7 (t + 1) (n32 i) s) (F8 (t' + 1) (n32 i) s')) :
    ∀ (d i : Nat) (s : S7) (s' : S8) (t t' : Nat), i + d = hi → d < t → d < t' → I i s s' → ok2 Q (F7 t (n32 i) s) (F8 t' (n32 i) s') := by
  intro d
  induction d with
  | zero =>
    intro i s s' t t' h1 h2 h2' h3
    obtain ⟨t, rfl⟩ : ∃ u, t = u + 1 := ⟨t - 1, by omega⟩
    obtain ⟨t', rfl⟩ : ∃ u, t' = u + 1 := ⟨t' - 1, by omega⟩
    have : i = hi := by omega
    subst this
    exact hstop t t' s s' h3
  | succ d ih =>
    intro i s s' t t' h1 h2 h2' h3
    obtain ⟨t, rfl⟩ : ∃ u, t = u + 1 := ⟨t - 1, by omega⟩
    obtain ⟨t', rfl⟩ : ∃ u, t' = u + 1 := ⟨t' - 1, by omega⟩
    rcases hstep i t t' s s' (by omega) h3 with ⟨s1, s1', h4, h5, h6⟩ | h4
    · rw [h5, h6]
      exact ih (i + 1) s1 s1' t t' (by omega) (by omega) (by omega) h4
    · exact h4
/-! cars that go -/
def dg (v : Nat → Nat) (mn c : Nat) : Bool := decide (md v (v (100 + 3 * c)) (v (72 + 4 * v (100 + 3 * c) + 2)) mn = 1 ∧ v (8 + v (72 + 4 * v (100 + 3 * c) + 1)) < 10000 ∧ ((v 7).testBit (v (72 + 4 * v (100 + 3 * c) + 1)) = false ∨ v (100 + 3 * c + 2) = 1))
def gs (v : Nat → Nat) (mn : Nat) : Nat → Nat
  | 0 => 0
  | c + 1 => gs v mn c ||| (if dg v mn c then 2 ^ c else 0)
theorem gs_bit (v : Nat → Nat) (mn : Nat) : ∀ n c, (gs v mn n).testBit c = (decide (c < n) && dg v mn c)
  | 0, c => by simp [gs]
  | n + 1, c => by
    rw [gs, Nat.testBit_or, gs_bit v mn n c]
    by_cases h : dg v mn n = true
    · rw [if_pos h, Nat.testBit_two_pow]
      by_cases e : n = c
      · subst e; simp [h]
      · have : decide (c < n + 1) = decide (c < n) := decide_eq_decide.mpr (by omega)
        simp [e, this]
    · rw [if_neg h]
      by_cases e : n = c
      · subst e; simp [h]
      · have : decide (c < n + 1) = decide (c < n) := decide_eq_decide.mpr (by omega)
        simp [this]
theorem gs_lt (v : Nat → Nat) (mn : Nat) : ∀ n, gs v mn n < 2 ^ n
  | 0 => by simp [gs]
  | n + 1 => by
    rw [gs]
    have h1 := gs_lt v mn n
    have h2 : 2 ^ n < 2 ^ (n + 1) := Nat.pow_lt_pow_right (by omega) (by omega)
    refine Nat.or_lt_two_pow (by omega) ?_
    by_cases h : dg v mn n = true
    · rw [if_pos h]; exact h2
    · rw [if_neg h]; omega
theorem gs_lt8 {v : Nat → Nat} {mn : Nat} {n : Nat} (h : n ≤ 3) : gs v mn n < 8 := Nat.lt_of_lt_of_le (gs_lt v mn n) (Nat.pow_le_pow_right (by omega) h)
theorem md01 (v : Nat → Nat) (p g mn : Nat) : md v p g mn = 0 ∨ md v p g mn = 1 := by unfold md; (repeat' split) <;> simp
section EV
variable {m0 m1 : Mem} {told : Int32} {v : Nat → Nat}
theorem t_hill (h : Sh (m0 6) v) (hv : Vd v) {p : Nat} (hp : p < v 4) : f_X8_isOnHill m0 (n32 p) = some (n32 ((v 7).testBit (v (72 + 4 * p + 1))).toNat) := by
  obtain ⟨⟨h4, h5, h0, h1, h6, h7, hP, hC⟩, hF⟩ := hv
  have hk := hP p hp
  obtain ⟨_, _, _, hh, _⟩ := hk
  unfold f_X8_isOnHill
  have e := t_of (k := 1) h (p := p) (by omega) (by omega)
  simp (disch := omega) only [n32_lit, n32_add, n32_mul, n32_lt, n32_le, n32_eq, n32_nat, n32_inb, gd_dec, gd_one, nm_eq, jn_eq, Option.bind_some, Nat.reduceAdd, Nat.reduceMul, Nat.reduceSub, Nat.reduceLT, Nat.reduceLeDiff, Nat.reduceEqDiff, ↓reduceIte, decide_true, decide_false, and_true, true_and, and_false, false_and, or_false, false_or, or_true, true_or, not_true_eq_false, not_false_eq_true, eq_self, Nat.zero_add, Nat.add_zero, Nat.mul_zero, Nat.mul_one, Nat.zero_le, Nat.not_lt_zero, bind_sm, bind_sm2, e, h 7 (by decide), n32_bit, n32_b1]
  cases (v 7).testBit (v (72 + 4 * p + 1)) <;> rfl
theorem t_doesGo (h : Sh (m0 6) v) (hv : Vd v) {c mn : Nat} (hc : c < v 5) (hm : mn ≤ 600) : f_X8_doesGo m0 (n32 c) (n32 mn) = some (n32 (dg v mn c).toNat) := by
  have hv' := hv
  obtain ⟨⟨h4, h5, h0, h1, h6, h7, hP, hC⟩, hF⟩ := hv'
  obtain ⟨o1, o2, o3, o4, o5⟩ := hC c hc
  obtain ⟨p1, p2, p3, p4, p5, p6⟩ := hP _ o1
  have e1 := t_car0 (k := 0) h (c := c) (by omega) (by omega)
  have e1' := t_car0 (k := 2) h (c := c) (by omega) (by omega)
  have e2 := t_of (k := 2) h (p := v (100 + 3 * c)) (by omega) (by omega)
  have e3 := t_of (k := 1) h (p := v (100 + 3 * c)) (by omega) (by omega)
  have e4 := t_mayDrive h hv o1 (g := v (72 + 4 * v (100 + 3 * c) + 2)) (mn := mn) (by omega) hm
  have e5 := t_farOf h (a := 0) (b := v (72 + 4 * v (100 + 3 * c) + 1)) (by omega) (by omega)
  have e6 := t_hill h hv o1
  have hfar := hF.1 0 (v (72 + 4 * v (100 + 3 * c) + 1)) (by omega) (by omega)
  rw [show 8 + 8 * 0 + v (72 + 4 * v (100 + 3 * c) + 1) = 8 + v (72 + 4 * v (100 + 3 * c) + 1) by omega] at e5 hfar
  unfold f_X8_doesGo dg
  simp (disch := omega) only [n32_lit, n32_add, n32_mul, n32_lt, n32_le, n32_eq, n32_nat, n32_inb, gd_dec, gd_one, nm_eq, jn_eq, Option.bind_some, Nat.reduceAdd, Nat.reduceMul, Nat.reduceSub, Nat.reduceLT, Nat.reduceLeDiff, Nat.reduceEqDiff, ↓reduceIte, decide_true, decide_false, and_true, true_and, and_false, false_and, or_false, false_or, or_true, true_or, not_true_eq_false, not_false_eq_true, eq_self, Nat.zero_add, Nat.add_zero, Nat.mul_zero, Nat.mul_one, Nat.zero_le, Nat.not_lt_zero, bind_sm, bind_sm2, e1, e2, e4]
  rcases md01 v (v (100 + 3 * c)) (v (72 + 4 * v (100 + 3 * c) + 2)) mn with z | z
  · rw [z]
    simp (disch := omega) only [n32_lit, n32_add, n32_mul, n32_lt, n32_le, n32_eq, n32_nat, n32_inb, gd_dec, gd_one, nm_eq, jn_eq, Option.bind_some, Nat.reduceAdd, Nat.reduceMul, Nat.reduceSub, Nat.reduceLT, Nat.reduceLeDiff, Nat.reduceEqDiff, ↓reduceIte, decide_true, decide_false, and_true, true_and, and_false, false_and, or_false, false_or, or_true, true_or, not_true_eq_false, not_false_eq_true, eq_self, Nat.zero_add, Nat.add_zero, Nat.mul_zero, Nat.mul_one, Nat.zero_le, Nat.not_lt_zero, bind_sm, bind_sm2]
    rfl
  · rw [z]
    simp (disch := omega) only [n32_lit, n32_add, n32_mul, n32_lt, n32_le, n32_eq, n32_nat, n32_inb, gd_dec, gd_one, nm_eq, jn_eq, Option.bind_some, Nat.reduceAdd, Nat.reduceMul, Nat.reduceSub, Nat.reduceLT, Nat.reduceLeDiff, Nat.reduceEqDiff, ↓reduceIte, decide_true, decide_false, and_true, true_and, and_false, false_and, or_false, false_or, or_true, true_or, not_true_eq_false, not_false_eq_true, eq_self, Nat.zero_add, Nat.add_zero, Nat.mul_zero, Nat.mul_one, Nat.zero_le, Nat.not_lt_zero, bind_sm, bind_sm2, e3, e5, e6, n32_b0]
    by_cases q : v (8 + v (72 + 4 * v (100 + 3 * c) + 1)) < 10000
    · have q2 : ¬ 10000 ≤ v (8 + v (72 + 4 * v (100 + 3 * c) + 1)) := by omega
      simp (disch := omega) only [n32_lit, n32_add, n32_mul, n32_lt, n32_le, n32_eq, n32_nat, n32_inb, gd_dec, gd_one, nm_eq, jn_eq, Option.bind_some, Nat.reduceAdd, Nat.reduceMul, Nat.reduceSub, Nat.reduceLT, Nat.reduceLeDiff, Nat.reduceEqDiff, ↓reduceIte, decide_true, decide_false, and_true, true_and, and_false, false_and, or_false, false_or, or_true, true_or, not_true_eq_false, not_false_eq_true, eq_self, Nat.zero_add, Nat.add_zero, Nat.mul_zero, Nat.mul_one, Nat.zero_le, Nat.not_lt_zero, bind_sm, bind_sm2, q, q2]
      cases hb : (v 7).testBit (v (72 + 4 * v (100 + 3 * c) + 1))
      · simp
      · simp (disch := omega) only [n32_lit, n32_add, n32_mul, n32_lt, n32_le, n32_eq, n32_nat, n32_inb, gd_dec, gd_one, nm_eq, jn_eq, Option.bind_some, Nat.reduceAdd, Nat.reduceMul, Nat.reduceSub, Nat.reduceLT, Nat.reduceLeDiff, Nat.reduceEqDiff, ↓reduceIte, decide_true, decide_false, and_true, true_and, and_false, false_and, or_false, false_or, or_true, true_or, not_true_eq_false, not_false_eq_true, eq_self, Nat.zero_add, Nat.add_zero, Nat.mul_zero, Nat.mul_one, Nat.zero_le, Nat.not_lt_zero, bind_sm, bind_sm2, e1']
        by_cases z2 : v (100 + 3 * c + 2) = 1
        · simp [z2]
        · simp [z2]
    · have q2 : 10000 ≤ v (8 + v (72 + 4 * v (100 + 3 * c) + 1)) := by omega
      simp [q, q2]
theorem t_reaches (h : Cl m1 v) (hv : Vd v) {c p : Nat} (hc : c < v 5) (hp : p < v 4) : f_X3_reaches m1 (n32 c) (n32 p) = some (n32 (decide (v (8 + v (72 + 4 * p + 1)) < 10000 ∧ ((v 7).testBit (v (72 + 4 * p + 1)) = false ∨ v (100 + 3 * c + 2) = 1))).toNat) := by
  have hv' := hv
  obtain ⟨⟨h4, h5, h0, h1, h6, h7, hP, hC⟩, hF⟩ := hv'
  obtain ⟨o1, o2, o3, o4, o5⟩ := hC c hc
  obtain ⟨p1, p2, p3, p4, p5, p6⟩ := hP _ hp
  obtain ⟨a1, a2, a3, a4⟩ := h.1.2.2.2.2.2.2.2.1 p hp
  obtain ⟨b1, b2, b3⟩ := h.1.2.2.2.2.2.2.2.2 c hc
  have e5 := t_joined h hv (a := 0) (b := v (72 + 4 * p + 1)) (by omega) (by omega)
  rw [show 8 + 8 * 0 + v (72 + 4 * p + 1) = 8 + v (72 + 4 * p + 1) by omega] at e5
  have e6 := t_hasBit (a := v 7) (i := v (72 + 4 * p + 1)) (by omega) (by omega)
  unfold f_X3_reaches
  simp (disch := omega) only [n32_lit, n32_add, n32_mul, n32_lt, n32_le, n32_eq, n32_nat, n32_inb, gd_dec, gd_one, nm_eq, jn_eq, Option.bind_some, Nat.reduceAdd, Nat.reduceMul, Nat.reduceSub, Nat.reduceLT, Nat.reduceLeDiff, Nat.reduceEqDiff, ↓reduceIte, decide_true, decide_false, and_true, true_and, and_false, false_and, or_false, false_or, or_true, true_or, not_true_eq_false, not_false_eq_true, eq_self, Nat.zero_add, Nat.add_zero, Nat.mul_zero, Nat.mul_one, Nat.zero_le, Nat.not_lt_zero, bind_sm, bind_sm2, a2, e5, h.1.2.2.2.2.2.1, e6]
  by_cases q : v (8 + v (72 + 4 * p + 1)) < 10000
  · simp (disch := omega) only [n32_lit, n32_add, n32_mul, n32_lt, n32_le, n32_eq, n32_nat, n32_inb, gd_dec, gd_one, nm_eq, jn_eq, Option.bind_some, Nat.reduceAdd, Nat.reduceMul, Nat.reduceSub, Nat.reduceLT, Nat.reduceLeDiff, Nat.reduceEqDiff, ↓reduceIte, decide_true, decide_false, and_true, true_and, and_false, false_and, or_false, false_or, or_true, true_or, not_true_eq_false, not_false_eq_true, eq_self, Nat.zero_add, Nat.add_zero, Nat.mul_zero, Nat.mul_one, Nat.zero_le, Nat.not_lt_zero, bind_sm, bind_sm2, q, n32_b0]
    cases hb : (v 7).testBit (v (72 + 4 * p + 1))
    · simp
    · simp (disch := omega) only [n32_lit, n32_add, n32_mul, n32_lt, n32_le, n32_eq, n32_nat, n32_inb, gd_dec, gd_one, nm_eq, jn_eq, Option.bind_some, Nat.reduceAdd, Nat.reduceMul, Nat.reduceSub, Nat.reduceLT, Nat.reduceLeDiff, Nat.reduceEqDiff, ↓reduceIte, decide_true, decide_false, and_true, true_and, and_false, false_and, or_false, false_or, or_true, true_or, not_true_eq_false, not_false_eq_true, eq_self, Nat.zero_add, Nat.add_zero, Nat.mul_zero, Nat.mul_one, Nat.zero_le, Nat.not_lt_zero, bind_sm, bind_sm2, b3]
      by_cases z2 : v (100 + 3 * c + 2) = 1
      · simp [z2]
      · simp [z2]
  · simp (disch := omega) only [n32_lit, n32_add, n32_mul, n32_lt, n32_le, n32_eq, n32_nat, n32_inb, gd_dec, gd_one, nm_eq, jn_eq, Option.bind_some, Nat.reduceAdd, Nat.reduceMul, Nat.reduceSub, Nat.reduceLT, Nat.reduceLeDiff, Nat.reduceEqDiff, ↓reduceIte, decide_true, decide_false, and_true, true_and, and_false, false_and, or_false, false_or, or_true, true_or, not_true_eq_false, not_false_eq_true, eq_self, Nat.zero_add, Nat.add_zero, Nat.mul_zero, Nat.mul_one, Nat.zero_le, Nat.not_lt_zero, bind_sm, bind_sm2, q]
    simp
theorem t_goingAt (h : Sh (m0 6) v) (hv : Vd v) {mn : Nat} (hm : mn ≤ 600) : f_X8_goingAt m0 (n32 mn) = some (n32 (gs v mn (v 5))) := by
  have h5 := hv.1.2.1
  unfold f_X8_goingAt
  have key : ok (fun r => r = n32 (gs v mn (v 5))) (f_X8_goingAt_L4 (fun (u16 : Int32) (u17 : Int32) => (some u16)) (n32 mn) m0 100000 0 0) := by
    refine loop_up (S := Int32) (fun t u s => f_X8_goingAt_L4 (fun (u16 : Int32) (u17 : Int32) => (some u16)) (n32 mn) m0 t s u) (v 5) (fun i s => s = n32 (gs v mn i)) _ ?_ ?_ (v 5) 0 0 100000 (by omega) (by omega) rfl
    · intro t s hi
      refine ok_eq (f_X8_goingAt_L4.eq_2 _ _ _ _ _ _) ?_
      simp (disch := omega) only [n32_lit, n32_add, n32_mul, n32_lt, n32_le, n32_eq, n32_nat, n32_inb, gd_dec, gd_one, nm_eq, jn_eq, Option.bind_some, Nat.reduceAdd, Nat.reduceMul, Nat.reduceSub, Nat.reduceLT, Nat.reduceLeDiff, Nat.reduceEqDiff, ↓reduceIte, decide_true, decide_false, and_true, true_and, and_false, false_and, or_false, false_or, or_true, true_or, not_true_eq_false, not_false_eq_true, eq_self, Nat.zero_add, Nat.add_zero, Nat.mul_zero, Nat.mul_one, Nat.zero_le, Nat.not_lt_zero, bind_sm, bind_sm2, h 5 (by decide), Nat.le_refl]
      exact ok_some hi
    · intro i t s hi hI
      left
      have hn : ¬ v 5 ≤ i := by omega
      have e := t_doesGo h hv hi hm
      refine ⟨n32 (gs v mn (i + 1)), rfl, ?_⟩
      refine Eq.trans (f_X8_goingAt_L4.eq_2 _ _ _ _ _ _) ?_
      rw [hI]
      simp (disch := omega) only [n32_lit, n32_add, n32_mul, n32_lt, n32_le, n32_eq, n32_nat, n32_inb, gd_dec, gd_one, nm_eq, jn_eq, Option.bind_some, Nat.reduceAdd, Nat.reduceMul, Nat.reduceSub, Nat.reduceLT, Nat.reduceLeDiff, Nat.reduceEqDiff, ↓reduceIte, decide_true, decide_false, and_true, true_and, and_false, false_and, or_false, false_or, or_true, true_or, not_true_eq_false, not_false_eq_true, eq_self, Nat.zero_add, Nat.add_zero, Nat.mul_zero, Nat.mul_one, Nat.zero_le, Nat.not_lt_zero, bind_sm, bind_sm2, h 5 (by decide), hn, e, n32_b0, n32_one, n32_or']
      rw [gs]
      cases dg v mn i <;> simp
  obtain ⟨r, e, h⟩ := key
  rw [e, h]
theorem t_carsThatGo (h : Cl m1 v) (hv : Vd v) {mn : Nat} (hm : mn ≤ 600) : f_X3_carsThatGo m1 (n32 mn) = some (n32 (gs v mn (v 5))) := by
  have hv' := hv
  obtain ⟨⟨h4, h5, h0, h1, h6, h7, hP, hC⟩, hF⟩ := hv'
  unfold f_X3_carsThatGo
  have key : ok (fun r => r = n32 (gs v mn (v 5))) (f_X3_carsThatGo_L4 (fun (u16 : Int32) (u17 : Int32) => (some u16)) (n32 mn) m1 100000 0 0) := by
    refine loop_up (S := Int32) (fun t u s => f_X3_carsThatGo_L4 (fun (u16 : Int32) (u17 : Int32) => (some u16)) (n32 mn) m1 t s u) (v 5) (fun i s => s = n32 (gs v mn i)) _ ?_ ?_ (v 5) 0 0 100000 (by omega) (by omega) rfl
    · intro t s hi
      refine ok_eq (f_X3_carsThatGo_L4.eq_2 _ _ _ _ _ _) ?_
      simp (disch := omega) only [n32_lit, n32_add, n32_mul, n32_lt, n32_le, n32_eq, n32_nat, n32_inb, gd_dec, gd_one, nm_eq, jn_eq, Option.bind_some, Nat.reduceAdd, Nat.reduceMul, Nat.reduceSub, Nat.reduceLT, Nat.reduceLeDiff, Nat.reduceEqDiff, ↓reduceIte, decide_true, decide_false, and_true, true_and, and_false, false_and, or_false, false_or, or_true, true_or, not_true_eq_false, not_false_eq_true, eq_self, Nat.zero_add, Nat.add_zero, Nat.mul_zero, Nat.mul_one, Nat.zero_le, Nat.not_lt_zero, bind_sm, bind_sm2, h.1.2.2.2.2.1, Nat.le_refl]
      exact ok_some hi
    · intro i t s hi hI
      left
      have hn : ¬ v 5 ≤ i := by omega
      obtain ⟨o1, o2, o3, o4, o5⟩ := hC i hi
      obtain ⟨p1, p2, p3, p4, p5, p6⟩ := hP _ o1
      obtain ⟨a1, a2, a3, a4⟩ := h.1.2.2.2.2.2.2.2.1 _ o1
      obtain ⟨b1, b2, b3⟩ := h.1.2.2.2.2.2.2.2.2 i hi
      have e4 := t_mayDriveC h hv o1 (g := v (72 + 4 * v (100 + 3 * i) + 2)) (mn := mn) (by omega) hm
      have e5 := t_reaches h hv hi o1
      refine ⟨n32 (gs v mn (i + 1)), rfl, ?_⟩
      refine Eq.trans (f_X3_carsThatGo_L4.eq_2 _ _ _ _ _ _) ?_
      rw [hI]
      simp (disch := omega) only [n32_lit, n32_add, n32_mul, n32_lt, n32_le, n32_eq, n32_nat, n32_inb, gd_dec, gd_one, nm_eq, jn_eq, Option.bind_some, Nat.reduceAdd, Nat.reduceMul, Nat.reduceSub, Nat.reduceLT, Nat.reduceLeDiff, Nat.reduceEqDiff, ↓reduceIte, decide_true, decide_false, and_true, true_and, and_false, false_and, or_false, false_or, or_true, true_or, not_true_eq_false, not_false_eq_true, eq_self, Nat.zero_add, Nat.add_zero, Nat.mul_zero, Nat.mul_one, Nat.zero_le, Nat.not_lt_zero, bind_sm, bind_sm2, h.1.2.2.2.2.1, hn, b1, a3, e4, e5, n32_b0, n32_one, n32_or']
      rw [gs]
      unfold dg
      rcases md01 v (v (100 + 3 * i)) (v (72 + 4 * v (100 + 3 * i) + 2)) mn with z | z
      · rw [z]; simp
      · rw [z]
        by_cases q : v (8 + v (72 + 4 * v (100 + 3 * i) + 1)) < 10000 ∧ ((v 7).testBit (v (72 + 4 * v (100 + 3 * i) + 1)) = false ∨ v (100 + 3 * i + 2) = 1)
        · simp [q, n32_10]
        · simp [q, n32_10]
  obtain ⟨r, e, h⟩ := key
  rw [e, h]
end EV
