/-! who fits into a car -/
theorem and_zero {a b : Nat} : (a &&& b = 0) ↔ ∀ i, ¬ (a.testBit i = true ∧ b.testBit i = true) := by
  constructor
  · intro h i ⟨h1, h2⟩
    have : (a &&& b).testBit i = false := by rw [h]; exact Nat.zero_testBit i
    rw [Nat.testBit_and, h1, h2] at this
    cases this
  · intro h
    apply Nat.eq_of_testBit_eq
    intro i
    rw [Nat.testBit_and, Nat.zero_testBit]
    cases h1 : a.testBit i
    · rfl
    · cases h2 : b.testBit i
      · rfl
      · exact absurd ⟨h1, h2⟩ (h i)
theorem pop_or : ∀ X, X < 128 → ∀ p, p < 7 → X.testBit p = false → pop7 (X ||| 2 ^ p) = pop7 X + 1 := by decide +kernel
theorem pop_mono : ∀ X, X < 128 → ∀ p, p < 7 → pop7 X ≤ pop7 (X ||| 2 ^ p) := by decide +kernel
section EV
variable {m1 w : Mem} {v : Nat → Nat}
def ow (v : Nat → Nat) (c : Nat) : Nat := v (100 + 3 * c)
def Fit (v : Nat → Nat) (c X : Nat) : Prop := pop7 X ≤ v (100 + 3 * c + 1) ∧ ∀ p, p < v 4 → (X ||| 2 ^ ow v c).testBit p = true → v (72 + 4 * p + 3) &&& (X ||| 2 ^ ow v c) = 0 ∧ ¬ (p ≠ ow v c ∧ (v 7).testBit (hm v p) = true ∧ v (100 + 3 * c + 2) = 0) ∧ v (8 + hm v p) < 10000
theorem t_fits (h : Sh (w 6) v) (hv : Vd v) {c X : Nat} (hc : c < v 5) (hX : X < 128) : (Fit v c X ∧ f_X8_fits w (n32 c) (n32 X) = some (n32 1)) ∨ (¬ Fit v c X ∧ f_X8_fits w (n32 c) (n32 X) = some (n32 0)) := by
  have hv' := hv
  obtain ⟨⟨h4, h5, h0, h1', h6, h7, hP, hC⟩, hF⟩ := hv'
  obtain ⟨o1, o2, o3, o4, o5⟩ := hC c hc
  have e1 := t_car00 h (c := c) (by omega)
  have e2 := t_car0 (k := 1) h (c := c) (by omega) (by omega)
  have e3 := t_car0 (k := 2) h (c := c) (by omega) (by omega)
  have eb := t_bits hX
  have pl := pop7_le X
  have e1' : f_X8_car0 w (n32 c) (n32 0) = some (n32 (ow v c)) := e1
  have ol : ow v c < 7 := by unfold ow; omega
  have al : X ||| 2 ^ ow v c < 128 := Nat.or_lt_two_pow (n := 7) hX (Nat.pow_lt_pow_right (by omega) ol)
  have key : ok (fun r => (Fit v c X ∧ r = n32 1) ∨ (¬ Fit v c X ∧ r = n32 0)) (f_X8_fits w (n32 c) (n32 X)) := by
    unfold f_X8_fits
    have on1 := n32_one (i := ow v c) (by omega)
    simp (maxSteps := 400000) (disch := omega) only [n32_lit, n32_add, n32_mul, n32_lt, n32_le, n32_eq, n32_nat, n32_inb, gd_dec, gdE, ↓nmE, ↓jnE, ↓bsE, Nat.reduceAdd, Nat.reduceMul, Nat.reduceSub, Nat.reduceLT, Nat.reduceLeDiff, Nat.reduceEqDiff, ↓reduceIte, decide_true, decide_false, and_true, true_and, and_false, false_and, or_false, false_or, or_true, true_or, not_true_eq_false, not_false_eq_true, eq_self, Nat.zero_add, Nat.add_zero, Nat.mul_zero, Nat.mul_one, Nat.zero_le, Nat.not_lt_zero, bind_sm, bind_sm2, e1', on1, n32_or', eb, e2]
    refine loop_up (S := Int32) (fun t u s => f_X8_fits_L34 _ (n32 c) w (n32 (X ||| 2 ^ ow v c)) t s u) (v 4) (fun i s => (s = n32 1 ∧ pop7 X ≤ v (100 + 3 * c + 1) ∧ ∀ p, p < i → (X ||| 2 ^ ow v c).testBit p = true → v (72 + 4 * p + 3) &&& (X ||| 2 ^ ow v c) = 0 ∧ ¬ (p ≠ ow v c ∧ (v 7).testBit (hm v p) = true ∧ v (100 + 3 * c + 2) = 0) ∧ v (8 + hm v p) < 10000) ∨ (s = n32 0 ∧ ¬ Fit v c X)) _ ?_ ?_ (v 4) 0 _ 100000 (by omega) (by omega) ?_
    · intro t s hI
      refine ok_eq (f_X8_fits_L34.eq_2 _ _ _ _ _ _ _) ?_
      simp (disch := omega) only [n32_lit, n32_add, n32_mul, n32_lt, n32_le, n32_eq, n32_nat, n32_inb, gd_dec, gd_one, nm_eq, jn_eq, Option.bind_some, Nat.reduceAdd, Nat.reduceMul, Nat.reduceSub, Nat.reduceLT, Nat.reduceLeDiff, Nat.reduceEqDiff, ↓reduceIte, decide_true, decide_false, and_true, true_and, and_false, false_and, or_false, false_or, or_true, true_or, not_true_eq_false, not_false_eq_true, eq_self, Nat.zero_add, Nat.add_zero, Nat.mul_zero, Nat.mul_one, Nat.zero_le, Nat.not_lt_zero, bind_sm, bind_sm2, h 4 (by decide), Nat.le_refl]
      rcases hI with ⟨rfl, a, b⟩ | ⟨rfl, a⟩
      · rw [gd_t' (by decide)]; exact ok_some (Or.inl ⟨⟨a, b⟩, rfl⟩)
      · rw [gd_t' (by decide)]; exact ok_some (Or.inr ⟨a, rfl⟩)
    · intro i t s hi hI
      rcases hI with ⟨rfl, a, b⟩ | ⟨rfl, a⟩
      · left
        obtain ⟨k1, k2, k3, k4, k5, k6, k7, k8⟩ := hP i hi
        have f1 : f_X8_of w (n32 i) (n32 1) = some (n32 (hm v i)) := t_of (k := 1) h (p := i) (by omega) (by omega)
        have f3 := t_of (k := 3) h (p := i) (by omega) (by omega)
        have fh := t_hill h hv hi
        have fh' : f_X8_isOnHill w (n32 i) = some (n32 ((v 7).testBit (hm v i)).toNat) := fh
        have ff := t_far0 h (b := hm v i) (by unfold hm; omega)
        have hfar := hF.1 0 (hm v i) (by omega) (by unfold hm; omega)
        rw [show 8 + 8 * 0 + hm v i = 8 + hm v i by omega] at hfar
        have an : v (72 + 4 * i + 3) &&& (X ||| 2 ^ ow v c) < 2147483648 := Nat.lt_of_le_of_lt Nat.and_le_left (by omega)
        cases hb : (X ||| 2 ^ ow v c).testBit i with
        | false =>
          refine ⟨n32 1, Or.inl ⟨rfl, a, fun p hp hpb => ?_⟩, ?_⟩
          · by_cases z : p = i
            · rw [z, hb] at hpb; cases hpb
            · exact b p (by omega) hpb
          · refine Eq.trans (f_X8_fits_L34.eq_2 _ _ _ _ _ _ _) ?_
            simp (disch := omega) only [n32_lit, n32_add, n32_mul, n32_lt, n32_le, n32_eq, n32_nat, n32_inb, gd_dec, gd_one, nm_eq, jn_eq, Option.bind_some, Nat.reduceAdd, Nat.reduceMul, Nat.reduceSub, Nat.reduceLT, Nat.reduceLeDiff, Nat.reduceEqDiff, ↓reduceIte, decide_true, decide_false, and_true, true_and, and_false, false_and, or_false, false_or, or_true, true_or, not_true_eq_false, not_false_eq_true, eq_self, Nat.zero_add, Nat.add_zero, Nat.mul_zero, Nat.mul_one, Nat.zero_le, Nat.not_lt_zero, bind_sm, bind_sm2, h 4 (by decide), show ¬ v 4 ≤ i by omega, n32_bit, n32_b1, hb]
            simp
        | true =>
          -- on a hill without snow tyres
          have hill : ∀ A : Int32 → Option Int32, (jn (α := Int32) (fun j23 => (if n32 i = n32 (ow v c) then (j23 (n32 0)) else (if n32 ((v 7).testBit (hm v i)).toNat = n32 0 then (j23 (n32 0)) else (if n32 (v (100 + 3 * c + 2)) = n32 0 then (j23 (n32 1)) else (j23 (n32 0)))))) A) = A (n32 (if i ≠ ow v c ∧ (v 7).testBit (hm v i) = true ∧ v (100 + 3 * c + 2) = 0 then 1 else 0)) := by
            intro A
            have q1 := n32_eq (a := i) (b := ow v c) (by omega) (by omega)
            have q3 := n32_eq (a := v (100 + 3 * c + 2)) (b := 0) (by omega) (by omega)
            simp only [jnE, q1, n32_b0, q3]
            by_cases z1 : i = ow v c
            · rw [if_pos z1, if_neg (fun q => q.1 z1)]
            · rw [if_neg z1]
              by_cases z2 : (v 7).testBit (hm v i) = false
              · rw [if_pos z2, if_neg (fun q => by rw [z2] at q; exact absurd q.2.1 (by decide))]
              · rw [if_neg z2]
                have z2' : (v 7).testBit (hm v i) = true := by simpa using z2
                by_cases z3 : v (100 + 3 * c + 2) = 0
                · rw [if_pos z3, if_pos ⟨z1, z2', z3⟩]
                · rw [if_neg z3, if_neg (fun q => z3 q.2.2)]
          have prog : ∀ (K : Int32 → Int32 → Option Int32), f_X8_fits_L34 K (n32 c) w (n32 (X ||| 2 ^ ow v c)) (t + 1) (n32 1) (n32 i) = f_X8_fits_L34 K (n32 c) w (n32 (X ||| 2 ^ ow v c)) t (n32 (if v (72 + 4 * i + 3) &&& (X ||| 2 ^ ow v c) = 0 ∧ ¬ (i ≠ ow v c ∧ (v 7).testBit (hm v i) = true ∧ v (100 + 3 * c + 2) = 0) ∧ v (8 + hm v i) < 10000 then 1 else 0)) (n32 (i + 1)) := by
            intro K
            refine Eq.trans (f_X8_fits_L34.eq_2 _ _ _ _ _ _ _) ?_
            have hb1 : ((n32 (X ||| 2 ^ ow v c) >>> (n32 i &&& n32 31)) &&& n32 1 = n32 1) = True := by rw [n32_bit (by omega) (by omega), hb]; exact eq_true rfl
            simp (maxSteps := 400000) (disch := omega) only [n32_lit, n32_lt, n32_le, n32_nat, n32_inb, gd_dec, h 4 (by decide), show ¬ v 4 ≤ i by omega, ↓reduceIte, show (n32 1 = n32 0) = False from n32_10, hb1, e1', bsE, fh', e3, hill, f3, n32_add]
            have qa := n32_eq (a := v (72 + 4 * i + 3) &&& (X ||| 2 ^ ow v c)) (b := 0) an (by omega)
            simp only [n32_and, qa]
            by_cases y1 : v (72 + 4 * i + 3) &&& (X ||| 2 ^ ow v c) = 0
            · rw [if_pos y1]
              by_cases y2 : i ≠ ow v c ∧ (v 7).testBit (hm v i) = true ∧ v (100 + 3 * c + 2) = 0
              · rw [if_pos y2, if_neg n32_10.mp, if_neg (fun q => q.2.1 y2)]
              · rw [if_neg y2, if_pos rfl]
                simp (maxSteps := 400000) (disch := omega) only [f1, bsE, ff, n32_le]
                by_cases y3 : v (8 + hm v i) < 10000
                · rw [if_neg (by omega), if_pos ⟨y1, y2, y3⟩]
                · rw [if_pos (by omega), if_neg (fun q => y3 q.2.2)]
            · rw [if_neg y1, if_neg (fun q => y1 q.1)]
          by_cases y : v (72 + 4 * i + 3) &&& (X ||| 2 ^ ow v c) = 0 ∧ ¬ (i ≠ ow v c ∧ (v 7).testBit (hm v i) = true ∧ v (100 + 3 * c + 2) = 0) ∧ v (8 + hm v i) < 10000
          · refine ⟨n32 1, Or.inl ⟨rfl, a, fun p hp hpb => ?_⟩, ?_⟩
            · by_cases z : p = i
              · rw [z]; exact y
              · exact b p (by omega) hpb
            · have := prog (fun (u27 : Int32) (u28 : Int32) => (gd (decide (u27 = n32 0 ∨ u27 = n32 1)) (some u27)))
              rw [if_pos y] at this
              exact this
          · refine ⟨n32 0, Or.inr ⟨rfl, fun f => y (f.2 i hi hb)⟩, ?_⟩
            have := prog (fun (u27 : Int32) (u28 : Int32) => (gd (decide (u27 = n32 0 ∨ u27 = n32 1)) (some u27)))
            rw [if_neg y] at this
            exact this
      · right
        refine ok_eq (f_X8_fits_L34.eq_2 _ _ _ _ _ _ _) ?_
        simp (disch := omega) only [n32_lit, n32_add, n32_mul, n32_lt, n32_le, n32_eq, n32_nat, n32_inb, gd_dec, gd_one, nm_eq, jn_eq, Option.bind_some, Nat.reduceAdd, Nat.reduceMul, Nat.reduceSub, Nat.reduceLT, Nat.reduceLeDiff, Nat.reduceEqDiff, ↓reduceIte, decide_true, decide_false, and_true, true_and, and_false, false_and, or_false, false_or, or_true, true_or, not_true_eq_false, not_false_eq_true, eq_self, Nat.zero_add, Nat.add_zero, Nat.mul_zero, Nat.mul_one, Nat.zero_le, Nat.not_lt_zero, bind_sm, bind_sm2, h 4 (by decide), show ¬ v 4 ≤ i by omega]
        exact ok_some (Or.inr ⟨a, rfl⟩)
    · by_cases q : v (100 + 3 * c + 1) < pop7 X
      · rw [if_pos q]; exact Or.inr ⟨rfl, fun f => by have := f.1; omega⟩
      · rw [if_neg q]; exact Or.inl ⟨rfl, by omega, fun p hp => by omega⟩
  obtain ⟨r, e, hr⟩ := key
  rcases hr with ⟨a, rfl⟩ | ⟨a, rfl⟩
  · exact Or.inl ⟨a, e⟩
  · exact Or.inr ⟨a, e⟩
theorem fit_less (hv : Vd v) {c X p : Nat} (hX : X < 128) (hp : p < 7) (h : Fit v c (X ||| 2 ^ p)) : Fit v c X := by
  obtain ⟨h1, h2⟩ := h
  have sub : ∀ i, (X ||| 2 ^ ow v c).testBit i = true → (X ||| 2 ^ p ||| 2 ^ ow v c).testBit i = true := by
    intro i hi
    rw [or_bit, Bool.or_eq_true] at hi
    rw [or_bit, or_bit, Bool.or_eq_true, Bool.or_eq_true]
    rcases hi with hi | hi
    · exact Or.inl (Or.inl hi)
    · exact Or.inr hi
  refine ⟨Nat.le_trans (pop_mono X hX p hp) h1, fun q hq hb => ?_⟩
  obtain ⟨a, b, c⟩ := h2 q hq (sub q hb)
  exact ⟨and_zero.mpr (fun i z => and_zero.mp a i ⟨z.1, sub i z.2⟩), b, c⟩
theorem fit_jx (hv : Vd v) {c X : Nat} (hc : c < v 5) (hX : Sub v X) (h : Fit v c X) : JX v c X := by
  obtain ⟨⟨h4, h5, h0, h1', h6, h7, hP, hC⟩, hF⟩ := hv
  obtain ⟨o1, o2, o3, o4, o5⟩ := hC c hc
  have jn : ∀ p, p < v 4 → (X ||| 2 ^ ow v c).testBit p = true → Jn v (hm v p) := fun p hp hb => by
    have := (h.2 p hp hb).2.2
    refine ⟨by have := (hP p hp).2.2.2.1; unfold hm; omega, ?_⟩
    unfold dst
    rw [show 8 + 8 * 0 + hm v p = 8 + hm v p by omega]; exact this
  refine ⟨hX, by have := h.1; omega, fun p hb => jn p (hX.mem hb) (by rw [or_bit, hb]; rfl), jn _ o1 (by rw [or_bit]; simp [ow])⟩
/-- room for one more -/
theorem t_room (hc : Cl m1 v) (hv : Vd v) {c X p : Nat} (hcc : c < v 5) (hX : Sub v X) (hp : p < v 4) (hpX : X.testBit p = false) (hpo : p ≠ ow v c) (hf : Fit v c X) : (Fit v c (X ||| 2 ^ p) ∧ f_X3_hasRoomFor m1 (n32 c) (n32 X) (n32 p) = some (n32 1)) ∨ (¬ Fit v c (X ||| 2 ^ p) ∧ f_X3_hasRoomFor m1 (n32 c) (n32 X) (n32 p) = some (n32 0)) := by
  have hv' := hv
  obtain ⟨⟨h4, h5, h0, h1', h6, h7, hP, hC⟩, hF⟩ := hv'
  obtain ⟨o1, o2, o3, o4, o5⟩ := hC c hcc
  have hX7 := hX.lt h4
  have ol : ow v c < 7 := by unfold ow; omega
  have al : X ||| 2 ^ ow v c < 128 := Nat.or_lt_two_pow (n := 7) hX7 (Nat.pow_lt_pow_right (by omega) ol)
  have bn := bitc_n hX7
  have po := pop_or X hX7 p (by omega) hpX
  have pl := pop7_le X
  obtain ⟨a1, a2, a3, a4⟩ := hc.1.2.2.2.2.2.2.2.1 p hp
  obtain ⟨b1, b2, b3⟩ := hc.1.2.2.2.2.2.2.2.2 c hcc
  have b1' : m1 16 c = n32 (ow v c) := b1
  have re := t_reaches hc hv hcc hp
  obtain ⟨k1, k2, k3, k4, k5, k6, k7, k8⟩ := hP p hp
  have an : v (72 + 4 * p + 3) &&& (X ||| 2 ^ ow v c) < 2147483648 := Nat.lt_of_le_of_lt Nat.and_le_left (by omega)
  have on1 := n32_one (i := ow v c) (by omega)
  -- what has to hold
  have iff1 : Fit v c (X ||| 2 ^ p) ↔ (pop7 X < v (100 + 3 * c + 1) ∧ v (72 + 4 * p + 3) &&& (X ||| 2 ^ ow v c) = 0 ∧ v (8 + hm v p) < 10000 ∧ ((v 7).testBit (hm v p) = false ∨ v (100 + 3 * c + 2) = 1)) := by
    have inA : ∀ i, (X ||| 2 ^ p ||| 2 ^ ow v c).testBit i = true ↔ ((X ||| 2 ^ ow v c).testBit i = true ∨ i = p) := by
      intro i
      rw [or_bit, or_bit, or_bit, Bool.or_eq_true, Bool.or_eq_true, Bool.or_eq_true, decide_eq_true_eq, decide_eq_true_eq]
      constructor
      · rintro ((a | a) | a)
        · exact Or.inl (Or.inl a)
        · exact Or.inr a.symm
        · exact Or.inl (Or.inr a)
      · rintro ((a | a) | a)
        · exact Or.inl (Or.inl a)
        · exact Or.inr a
        · exact Or.inl (Or.inr a.symm)
    constructor
    · intro ⟨f1, f2⟩
      obtain ⟨g1, g2, g3⟩ := f2 p hp ((inA p).mpr (Or.inr rfl))
      refine ⟨by omega, and_zero.mpr (fun i z => and_zero.mp g1 i ⟨z.1, (inA i).mpr (Or.inl z.2)⟩), g3, ?_⟩
      cases hb : (v 7).testBit (hm v p)
      · exact Or.inl rfl
      · right
        apply Classical.byContradiction
        intro q
        exact g2 ⟨hpo, hb, by omega⟩
    · intro ⟨f1, f2, f3, f4⟩
      refine ⟨by omega, fun q hq hb => ?_⟩
      rcases (inA q).mp hb with hq' | hqp
      · obtain ⟨g1, g2, g3⟩ := hf.2 q hq hq'
        refine ⟨and_zero.mpr (fun i z => ?_), g2, g3⟩
        rcases (inA i).mp z.2 with y | y
        · exact and_zero.mp g1 i ⟨z.1, y⟩
        · have z1 := z.1
          rw [y] at z1
          have z2 : (v (72 + 4 * p + 3)).testBit q = true := by rw [k8 q hq]; exact z1
          exact and_zero.mp f2 q ⟨z2, hq'⟩
      · rw [hqp]
        refine ⟨and_zero.mpr (fun i z => ?_), fun g => ?_, f3⟩
        · rcases (inA i).mp z.2 with y | y
          · exact and_zero.mp f2 i ⟨z.1, y⟩
          · have z1 := z.1
            rw [y, k7] at z1; exact absurd z1 (by decide)
        · rcases f4 with f4 | f4
          · rw [f4] at g; exact absurd g.2.1 (by decide)
          · omega
  unfold f_X3_hasRoomFor
  rw [iff1]
  have re' : f_X3_reaches m1 (n32 c) (n32 p) = some (n32 (decide (v (8 + hm v p) < 10000 ∧ ((v 7).testBit (hm v p) = false ∨ v (100 + 3 * c + 2) = 1))).toNat) := re
  by_cases y1 : pop7 X < v (100 + 3 * c + 1)
  · by_cases y2 : v (72 + 4 * p + 3) &&& (X ||| 2 ^ ow v c) = 0
    · have y2' : (n32 (v (72 + 4 * p + 3)) &&& n32 (X ||| 2 ^ ow v c) = n32 0) = True := by rw [n32_and, n32_eq an (by omega)]; exact eq_true y2
      by_cases y3 : v (8 + hm v p) < 10000 ∧ ((v 7).testBit (hm v p) = false ∨ v (100 + 3 * c + 2) = 1)
      · left
        refine ⟨⟨y1, y2, y3⟩, ?_⟩
        rw [decide_eq_true y3] at re'
        simp (maxSteps := 400000) (disch := omega) only [n32_lit, n32_add, n32_mul, n32_lt, n32_le, n32_eq, n32_nat, n32_inb, gd_dec, gdE, ↓nmE, ↓jnE, ↓bsE, Nat.reduceAdd, Nat.reduceMul, Nat.reduceSub, Nat.reduceLT, Nat.reduceLeDiff, Nat.reduceEqDiff, ↓reduceIte, decide_true, decide_false, and_true, true_and, and_false, false_and, or_false, false_or, or_true, true_or, not_true_eq_false, not_false_eq_true, eq_self, Nat.zero_add, Nat.add_zero, Nat.mul_zero, Nat.mul_one, Nat.zero_le, Nat.not_lt_zero, bind_sm, bind_sm2, show c < 3 by omega, b1', on1, n32_or', b2, bn, show ¬ v (100 + 3 * c + 1) ≤ pop7 X by omega, show p < 7 by omega, a4, y2', re', Bool.toNat_true]
      · right
        refine ⟨fun q => y3 q.2.2, ?_⟩
        rw [decide_eq_false y3] at re'
        simp (maxSteps := 400000) (disch := omega) only [n32_lit, n32_add, n32_mul, n32_lt, n32_le, n32_eq, n32_nat, n32_inb, gd_dec, gdE, ↓nmE, ↓jnE, ↓bsE, Nat.reduceAdd, Nat.reduceMul, Nat.reduceSub, Nat.reduceLT, Nat.reduceLeDiff, Nat.reduceEqDiff, ↓reduceIte, decide_true, decide_false, and_true, true_and, and_false, false_and, or_false, false_or, or_true, true_or, not_true_eq_false, not_false_eq_true, eq_self, Nat.zero_add, Nat.add_zero, Nat.mul_zero, Nat.mul_one, Nat.zero_le, Nat.not_lt_zero, bind_sm, bind_sm2, show c < 3 by omega, b1', on1, n32_or', b2, bn, show ¬ v (100 + 3 * c + 1) ≤ pop7 X by omega, show p < 7 by omega, a4, y2', re', Bool.toNat_false]
    · have y2' : (n32 (v (72 + 4 * p + 3)) &&& n32 (X ||| 2 ^ ow v c) = n32 0) = False := by rw [n32_and, n32_eq an (by omega)]; exact eq_false y2
      right
      refine ⟨fun q => y2 q.2.1, ?_⟩
      simp (maxSteps := 400000) (disch := omega) only [n32_lit, n32_add, n32_mul, n32_lt, n32_le, n32_eq, n32_nat, n32_inb, gd_dec, gdE, ↓nmE, ↓jnE, ↓bsE, Nat.reduceAdd, Nat.reduceMul, Nat.reduceSub, Nat.reduceLT, Nat.reduceLeDiff, Nat.reduceEqDiff, ↓reduceIte, decide_true, decide_false, and_true, true_and, and_false, false_and, or_false, false_or, or_true, true_or, not_true_eq_false, not_false_eq_true, eq_self, Nat.zero_add, Nat.add_zero, Nat.mul_zero, Nat.mul_one, Nat.zero_le, Nat.not_lt_zero, bind_sm, bind_sm2, show c < 3 by omega, b1', on1, n32_or', b2, bn, show ¬ v (100 + 3 * c + 1) ≤ pop7 X by omega, show p < 7 by omega, a4, y2']
  · right
    refine ⟨fun q => y1 q.1, ?_⟩
    simp (maxSteps := 400000) (disch := omega) only [n32_lit, n32_add, n32_mul, n32_lt, n32_le, n32_eq, n32_nat, n32_inb, gd_dec, gdE, ↓nmE, ↓jnE, ↓bsE, Nat.reduceAdd, Nat.reduceMul, Nat.reduceSub, Nat.reduceLT, Nat.reduceLeDiff, Nat.reduceEqDiff, ↓reduceIte, decide_true, decide_false, and_true, true_and, and_false, false_and, or_false, false_or, or_true, true_or, not_true_eq_false, not_false_eq_true, eq_self, Nat.zero_add, Nat.add_zero, Nat.mul_zero, Nat.mul_one, Nat.zero_le, Nat.not_lt_zero, bind_sm, bind_sm2, show c < 3 by omega, b1', on1, n32_or', b2, bn, show v (100 + 3 * c + 1) ≤ pop7 X by omega]
end EV
