/-! cars, quarrels -/
section TK
variable {n e fk fp : Nat} {tp : Nat → Nat} {m w m2 : Mem} {v : Nat → Nat}
theorem t_isOwner (h : Sh (w 7) v) (h5 : v 5 ≤ 3) (hC : ∀ c, c < v 5 → v (100 + 3 * c) < 8) {x : Nat} (hx : x < 2000) : (f_X8_isOwner w (n32 x) = some (n32 1) ∧ ∃ c, c < v 5 ∧ v (100 + 3 * c) = x) ∨ (f_X8_isOwner w (n32 x) = some (n32 0) ∧ ∀ c, c < v 5 → v (100 + 3 * c) ≠ x) := by
  unfold f_X8_isOwner
  obtain ⟨s, i1, i2⟩ := loop_k (S := Int32) (fun K t u s => f_X8_isOwner_L4 (fun a b => K b a) (n32 x) w t s u) (v 5) (fun i s => (s = n32 1 ∧ ∃ c, c < i ∧ v (100 + 3 * c) = x) ∨ (s = n32 0 ∧ ∀ c, c < i → v (100 + 3 * c) ≠ x)) (fun K t s _ => by
      refine Eq.trans (f_X8_isOwner_L4.eq_2 _ _ _ _ _ _) ?_
      simp (disch := omega) only [n32_lit, n32_add, n32_mul, n32_lt, n32_le, n32_eq, n32_nat, n32_inb, gd_dec, gd_one, nm_eq, jn_eq, Option.bind_some, Nat.reduceAdd, Nat.reduceMul, Nat.reduceSub, Nat.reduceLT, Nat.reduceLeDiff, Nat.reduceEqDiff, ↓reduceIte, decide_true, decide_false, and_true, true_and, and_false, false_and, or_false, false_or, or_true, true_or, not_true_eq_false, not_false_eq_true, eq_self, Nat.zero_add, Nat.add_zero, Nat.mul_zero, Nat.mul_one, Nat.zero_le, Nat.not_lt_zero, bind_sm, bind_sm2, h 5 (by decide), Nat.le_refl]) (fun i s hi hI => by
      have hc := h (100 + 3 * i) (by omega)
      have hl := hC i hi
      rcases hI with ⟨rfl, c, c1, c2⟩ | ⟨rfl, c1⟩
      · refine ⟨n32 1, Or.inl ⟨rfl, c, by omega, c2⟩, fun K t => ?_⟩
        refine Eq.trans (f_X8_isOwner_L4.eq_2 _ _ _ _ _ _) ?_
        simp (disch := omega) only [n32_lit, n32_add, n32_mul, n32_lt, n32_le, n32_eq, n32_nat, n32_inb, gd_dec, gd_one, nm_eq, jn_eq, Option.bind_some, Nat.reduceAdd, Nat.reduceMul, Nat.reduceSub, Nat.reduceLT, Nat.reduceLeDiff, Nat.reduceEqDiff, ↓reduceIte, decide_true, decide_false, and_true, true_and, and_false, false_and, or_false, false_or, or_true, true_or, not_true_eq_false, not_false_eq_true, eq_self, Nat.zero_add, Nat.add_zero, Nat.mul_zero, Nat.mul_one, Nat.zero_le, Nat.not_lt_zero, bind_sm, bind_sm2, h 5 (by decide), show ¬ v 5 ≤ i by omega]
      · by_cases q : v (100 + 3 * i) = x
        · refine ⟨n32 1, Or.inl ⟨rfl, i, by omega, q⟩, fun K t => ?_⟩
          refine Eq.trans (f_X8_isOwner_L4.eq_2 _ _ _ _ _ _) ?_
          simp (disch := omega) only [n32_lit, n32_add, n32_mul, n32_lt, n32_le, n32_eq, n32_nat, n32_inb, gd_dec, gd_one, nm_eq, jn_eq, Option.bind_some, Nat.reduceAdd, Nat.reduceMul, Nat.reduceSub, Nat.reduceLT, Nat.reduceLeDiff, Nat.reduceEqDiff, ↓reduceIte, decide_true, decide_false, and_true, true_and, and_false, false_and, or_false, false_or, or_true, true_or, not_true_eq_false, not_false_eq_true, eq_self, Nat.zero_add, Nat.add_zero, Nat.mul_zero, Nat.mul_one, Nat.zero_le, Nat.not_lt_zero, bind_sm, bind_sm2, h 5 (by decide), show ¬ v 5 ≤ i by omega, show 100 + 3 * i < 109 by omega, hc, q]
        · refine ⟨n32 0, Or.inr ⟨rfl, fun c hc => ?_⟩, fun K t => ?_⟩
          · by_cases z : c = i
            · rw [z]; exact q
            · exact c1 c (by omega)
          · refine Eq.trans (f_X8_isOwner_L4.eq_2 _ _ _ _ _ _) ?_
            simp (disch := omega) only [n32_lit, n32_add, n32_mul, n32_lt, n32_le, n32_eq, n32_nat, n32_inb, gd_dec, gd_one, nm_eq, jn_eq, Option.bind_some, Nat.reduceAdd, Nat.reduceMul, Nat.reduceSub, Nat.reduceLT, Nat.reduceLeDiff, Nat.reduceEqDiff, ↓reduceIte, decide_true, decide_false, and_true, true_and, and_false, false_and, or_false, false_or, or_true, true_or, not_true_eq_false, not_false_eq_true, eq_self, Nat.zero_add, Nat.add_zero, Nat.mul_zero, Nat.mul_one, Nat.zero_le, Nat.not_lt_zero, bind_sm, bind_sm2, h 5 (by decide), show ¬ v 5 ≤ i by omega, show 100 + 3 * i < 109 by omega, hc, q]) (v 5) 0 (n32 0) 100000 (by omega) (by omega) (Or.inr ⟨rfl, fun c hc => by omega⟩)
  have e := i2 (fun b a => gd (decide (a = 0 ∨ a = 1)) (some a))
  rcases i1 with ⟨rfl, c⟩ | ⟨rfl, c⟩
  · exact Or.inl ⟨e.trans (gd_t' (by decide)), c⟩
  · exact Or.inr ⟨e.trans (gd_t' (by decide)), c⟩
theorem st_car (hd : DR v w m2) (h8 : S8 n tp e w) (h7 : TP7 n tp m) (ht : Tok7 n tp e m) (hk0 : tkK n tp e ≠ 0) : StO n tp e w m (f_X5_readCar m2 m) (f_X8_readCar w) := by
  have hs := hd
  obtain ⟨h1, ⟨cl0, cF, c10, c11⟩, vd0, vM, vq, v2, v3⟩ := hs
  have hcl := cl0
  obtain ⟨c1, c2, c3, c4, c5, c6, c7, c8, c9⟩ := cl0
  have hvd := vd0
  obtain ⟨v4, v5, v0, v1, v6, v7, vP, vC⟩ := vd0
  obtain ⟨g1, g2⟩ := tkE_ge (tp := tp) h8.e_le
  have g3 := tkE_gt (tp := tp) h8.e_le hk0
  have sm : S7 n tp (tkE n tp e) m := ⟨h7, ht.2.2.1, g2⟩
  obtain ⟨w1, a1, a2, a3⟩ := r_begins h8 (s := 5) (room := 3) (by omega) (h1 5 (by omega)) (by omega) (by omega)
  unfold f_X5_readCar f_X8_readCar
  have h4of : ∀ {w'}, Fr PR8 w w' → w' 7 4 = n32 (v 4) := fun hf => by rw [hf 7 4 (by unfold PR8; omega)]; exact h1 4 (by omega)
  rcases a3 with ⟨z, b1⟩ | ⟨z, b1⟩
  · have c16 : v 5 < 3 := by omega
    have hb := b1.e_le
    obtain ⟨k1, k2⟩ := tk_k8 (tp := tp) hb
    have k3 : (n32 (k8 (tkK n tp (tkE n tp e))) = n32 3) = (tkK n tp (tkE n tp e) = 2) := by rw [n32_eq k1 (by omega), k2 3 (by omega) (by omega)]
    have t16 := b1.2.1.1
    have hsh1 : Sh (w1 7) v := by rw [a2.row 7 (fun i => by unfold PR8; omega)]; exact h1
    have hCl : ∀ c, c < v 5 → v (100 + 3 * c) < 8 := fun c hc => by have := (vC c hc).1; omega
    by_cases hK : tkK n tp (tkE n tp e) = 2
    · have fg := r_figures b1
      rw [if_pos hK] at fg
      have vl := nv_lt hb hK
      rw [hK, k8_2] at t16
      obtain ⟨w2, m3, p1, p2, p3⟩ := both_number b1 sm 0 (v 4) (by omega) (by omega)
      rcases t_isOwner hsh1 v5 hCl (x := nv n tp (tkE n tp e)) (by omega) with ⟨o1, c, o2, o3⟩ | ⟨o1, o2⟩
      · -- somebody has a car already
        rcases p3 with ⟨x1, x2, x3, x4, x5, x6, x7⟩ | ⟨r, fk, fp, x1, x2, x3, x4⟩
        · obtain ⟨w3, d1, d2, d3, -⟩ := r_bad b1 (k := 2) (by omega)
          obtain ⟨m4, f1, f2, f3⟩ := c_fail x7 2
          obtain ⟨r, r1, r2⟩ := t_carOfC hcl hvd (p := nv n tp (tkE n tp e)) (by omega)
          have r3 : (r = -n32 1000000) = False := by
            rcases r2 with ⟨c', q1, q2, q3⟩ | ⟨q1, -⟩
            · rw [q3]; exact neN (by omega)
            · exact absurd o3 (q1 c o2)
          refine StO.bad (m2' := m2) ?_ ?_ (a2.trans d2) (p2.trans f2) f3 d3
          · simp (maxSteps := 400000) (disch := omega) only [n32_lit, n32_add, n32_mul, n32_lt, n32_le, n32_eq, n32_nat, n32_inb, gd_dec, gdE, ↓nmE, ↓jnE, ↓bsE, Nat.reduceAdd, Nat.reduceMul, Nat.reduceSub, Nat.reduceLT, Nat.reduceLeDiff, Nat.reduceEqDiff, ↓reduceIte, decide_true, decide_false, and_true, true_and, and_false, false_and, or_false, false_or, or_true, true_or, not_true_eq_false, not_false_eq_true, eq_self, Nat.zero_add, Nat.add_zero, Nat.mul_zero, Nat.mul_one, Nat.zero_le, Nat.not_lt_zero, bind_sm, bind_sm2, up_at, up_ms, up_mi, upA_at, upA_ms, c5, c16, c4, dn_n, x3, x4, r1, r3, f1, dec01]
          · simp (maxSteps := 400000) (disch := omega) only [n32_lit, n32_add, n32_mul, n32_lt, n32_le, n32_eq, n32_nat, n32_inb, gd_dec, gdE, ↓nmE, ↓jnE, ↓bsE, Nat.reduceAdd, Nat.reduceMul, Nat.reduceSub, Nat.reduceLT, Nat.reduceLeDiff, Nat.reduceEqDiff, ↓reduceIte, decide_true, decide_false, and_true, true_and, and_false, false_and, or_false, false_or, or_true, true_or, not_true_eq_false, not_false_eq_true, eq_self, Nat.zero_add, Nat.add_zero, Nat.mul_zero, Nat.mul_one, Nat.zero_le, Nat.not_lt_zero, bind_sm, bind_sm2, up_at, up_ms, up_mi, upA_at, upA_ms, a1, b1.2.2.2, t16, fg, o1, d1, r_numberF d3, r_mustEndF d3, d3.ne]
        · -- a number out of range is nobody's
          exfalso
          have nk : nok n tp (tkE n tp e) 0 (v 4) := ⟨hK, by omega, by have := (vC c o2).1; omega⟩
          obtain ⟨m', d1, d2⟩ := c_number sm 0 (v 4) (by omega) (by omega)
          rcases d2 with ⟨-, y, -⟩ | ⟨y, -⟩
          · rw [x2] at y
            have h2 : n32 0 = n32 1 := congrArg Prod.fst (Option.some.inj y)
            exact absurd h2 (by decide)
          · exact y nk
      · have cN : f_X3_carOf m2 (n32 (nv n tp (tkE n tp e))) = some (-n32 1000000) := by
          obtain ⟨r, r1, r2⟩ := t_carOfC hcl hvd (p := nv n tp (tkE n tp e)) (by omega)
          rcases r2 with ⟨c', q1, q2, q3⟩ | ⟨-, q1⟩
          · exact absurd q2 (o2 c' q1)
          · rw [r1, q1]; rfl
        rcases p3 with ⟨x1, x2, x3, x4, x5, x6, x7⟩ | ⟨r, fk, fp, x1, x2, x3, x4⟩
        · obtain ⟨-, -, va⟩ := x1
          generalize hA : nv n tp (tkE n tp e) = A at *
          obtain ⟨w3, m4, q1, q2, q3⟩ := both_number x5 x6 1 (4 + 1) (by omega) (by omega)
          rw [dn_s] at q3
          rcases q3 with ⟨y1, y2, y3, y4, y5, y6, -⟩ | ⟨r, fk, fp, y1, y2, y3, y4⟩
          · obtain ⟨-, vb1, vb⟩ := y1
            generalize hB : nv n tp (tkE n tp (tkE n tp e)) = B at *
            obtain ⟨w4, m5, s1, s2, s3⟩ := both_number y5 y6 0 (1 + 1) (by omega) (by omega)
            rw [dn_s] at s3
            rcases s3 with ⟨t1, t2, t3, t4, t5, t6, -⟩ | ⟨r, fk, fp, t1, t2, t3, t4⟩
            · obtain ⟨-, -, vc⟩ := t1
              generalize hX : nv n tp (tkE n tp (tkE n tp (tkE n tp e))) = X at *
              obtain ⟨w5, m6, u1, u2, u3⟩ := both_sign t5 t6
              have q8 := a2.trans (p1.trans (q1.trans (s1.trans u1)))
              have q7 := p2.trans (q2.trans (s2.trans u2))
              have dw := hd.fr q8
              have h75 := dw.1 5 (by omega)
              unfold f_X3_addCar
              rcases u3 with ⟨i1, i2, i3, i4⟩ | ⟨fk, fp, i1, i2, i3, i4⟩
              · refine ⟨n32 1, _, m6, _, ?_, ?_, ?_, q7, Or.inl ⟨rfl, _, _, ?_, i4, ?_, dr_car dw (o := A) (st := B) (sn := X) va ⟨vb1, by omega⟩ (by omega) c16 o2⟩⟩
                · simp (maxSteps := 400000) (disch := omega) only [n32_lit, n32_add, n32_mul, n32_lt, n32_le, n32_eq, n32_nat, n32_inb, gd_dec, gdE, ↓nmE, ↓jnE, ↓bsE, Nat.reduceAdd, Nat.reduceMul, Nat.reduceSub, Nat.reduceLT, Nat.reduceLeDiff, Nat.reduceEqDiff, ↓reduceIte, decide_true, decide_false, and_true, true_and, and_false, false_and, or_false, false_or, or_true, true_or, not_true_eq_false, not_false_eq_true, eq_self, Nat.zero_add, Nat.add_zero, Nat.mul_zero, Nat.mul_one, Nat.zero_le, Nat.not_lt_zero, bind_sm, bind_sm2, up_at, up_ms, up_mi, upA_at, upA_ms, c5, c16, c4, dn_n, x3, x4, cN, y3, y4, t3, t4, i2, dec11]
                · simp (maxSteps := 400000) (disch := omega) only [n32_lit, n32_add, n32_mul, n32_lt, n32_le, n32_eq, n32_nat, n32_inb, gd_dec, gdE, ↓nmE, ↓jnE, ↓bsE, Nat.reduceAdd, Nat.reduceMul, Nat.reduceSub, Nat.reduceLT, Nat.reduceLeDiff, Nat.reduceEqDiff, ↓reduceIte, decide_true, decide_false, and_true, true_and, and_false, false_and, or_false, false_or, or_true, true_or, not_true_eq_false, not_false_eq_true, eq_self, Nat.zero_add, Nat.add_zero, Nat.mul_zero, Nat.mul_one, Nat.zero_le, Nat.not_lt_zero, bind_sm, bind_sm2, up_at, up_ms, up_mi, upA_at, upA_ms, a1, b1.2.2.2, t16, fg, o1, h4of a2, dn_n, x2, y2, t2, i1, i3.2.2.2, h75, show 100 + 3 * v 5 < 109 by omega, show 100 + 3 * v 5 + 1 < 109 by omega, show 100 + 3 * v 5 + 2 < 109 by omega]
                · exact (((q8.e.up 7 _ _ (Or.inl rfl)).up 7 _ _ (Or.inl rfl)).up 7 _ _ (Or.inl rfl)).up 7 _ _ (Or.inl rfl)
                · have o1 := tkE_ge (tp := tp) hb
                  have o2 := tkE_ge (tp := tp) x5.e_le
                  have o3 := tkE_ge (tp := tp) y5.e_le
                  have o4 := tkE_ge (tp := tp) t5.e_le
                  omega
                · exact (((i3.up7 _ _).up7 _ _).up7 _ _).up7 _ _
              · refine StO.bad (m2' := up (up (up (up m2 16 (v 5) (n32 A)) 17 (v 5) (n32 B)) 18 (v 5) (n32 X)) 0 7 (n32 (v 5 + 1))) ?_ ?_ q8 q7 i4 i3
                · simp (maxSteps := 400000) (disch := omega) only [n32_lit, n32_add, n32_mul, n32_lt, n32_le, n32_eq, n32_nat, n32_inb, gd_dec, gdE, ↓nmE, ↓jnE, ↓bsE, Nat.reduceAdd, Nat.reduceMul, Nat.reduceSub, Nat.reduceLT, Nat.reduceLeDiff, Nat.reduceEqDiff, ↓reduceIte, decide_true, decide_false, and_true, true_and, and_false, false_and, or_false, false_or, or_true, true_or, not_true_eq_false, not_false_eq_true, eq_self, Nat.zero_add, Nat.add_zero, Nat.mul_zero, Nat.mul_one, Nat.zero_le, Nat.not_lt_zero, bind_sm, bind_sm2, up_at, up_ms, up_mi, upA_at, upA_ms, c5, c16, c4, dn_n, x3, x4, cN, y3, y4, t3, t4, i2, dec01]
                · simp (maxSteps := 400000) (disch := omega) only [n32_lit, n32_add, n32_mul, n32_lt, n32_le, n32_eq, n32_nat, n32_inb, gd_dec, gdE, ↓nmE, ↓jnE, ↓bsE, Nat.reduceAdd, Nat.reduceMul, Nat.reduceSub, Nat.reduceLT, Nat.reduceLeDiff, Nat.reduceEqDiff, ↓reduceIte, decide_true, decide_false, and_true, true_and, and_false, false_and, or_false, false_or, or_true, true_or, not_true_eq_false, not_false_eq_true, eq_self, Nat.zero_add, Nat.add_zero, Nat.mul_zero, Nat.mul_one, Nat.zero_le, Nat.not_lt_zero, bind_sm, bind_sm2, up_at, up_ms, up_mi, upA_at, upA_ms, a1, b1.2.2.2, t16, fg, o1, h4of a2, dn_n, x2, y2, t2, i1, i3.ne]
            · refine StO.bad (m2' := m2) ?_ ?_ (a2.trans (p1.trans (q1.trans s1))) (p2.trans (q2.trans s2)) t4 t3
              · simp (maxSteps := 400000) (disch := omega) only [n32_lit, n32_add, n32_mul, n32_lt, n32_le, n32_eq, n32_nat, n32_inb, gd_dec, gdE, ↓nmE, ↓jnE, ↓bsE, Nat.reduceAdd, Nat.reduceMul, Nat.reduceSub, Nat.reduceLT, Nat.reduceLeDiff, Nat.reduceEqDiff, ↓reduceIte, decide_true, decide_false, and_true, true_and, and_false, false_and, or_false, false_or, or_true, true_or, not_true_eq_false, not_false_eq_true, eq_self, Nat.zero_add, Nat.add_zero, Nat.mul_zero, Nat.mul_one, Nat.zero_le, Nat.not_lt_zero, bind_sm, bind_sm2, up_at, up_ms, up_mi, upA_at, upA_ms, c5, c16, c4, dn_n, x3, x4, cN, y3, y4, t2]
              · simp (maxSteps := 400000) (disch := omega) only [n32_lit, n32_add, n32_mul, n32_lt, n32_le, n32_eq, n32_nat, n32_inb, gd_dec, gdE, ↓nmE, ↓jnE, ↓bsE, Nat.reduceAdd, Nat.reduceMul, Nat.reduceSub, Nat.reduceLT, Nat.reduceLeDiff, Nat.reduceEqDiff, ↓reduceIte, decide_true, decide_false, and_true, true_and, and_false, false_and, or_false, false_or, or_true, true_or, not_true_eq_false, not_false_eq_true, eq_self, Nat.zero_add, Nat.add_zero, Nat.mul_zero, Nat.mul_one, Nat.zero_le, Nat.not_lt_zero, bind_sm, bind_sm2, up_at, up_ms, up_mi, upA_at, upA_ms, a1, b1.2.2.2, t16, fg, o1, h4of a2, dn_n, x2, y2, t1, r_mustEndF t3, t3.ne]
          · refine StO.bad (m2' := m2) ?_ ?_ (a2.trans (p1.trans q1)) (p2.trans q2) y4 y3
            · simp (maxSteps := 400000) (disch := omega) only [n32_lit, n32_add, n32_mul, n32_lt, n32_le, n32_eq, n32_nat, n32_inb, gd_dec, gdE, ↓nmE, ↓jnE, ↓bsE, Nat.reduceAdd, Nat.reduceMul, Nat.reduceSub, Nat.reduceLT, Nat.reduceLeDiff, Nat.reduceEqDiff, ↓reduceIte, decide_true, decide_false, and_true, true_and, and_false, false_and, or_false, false_or, or_true, true_or, not_true_eq_false, not_false_eq_true, eq_self, Nat.zero_add, Nat.add_zero, Nat.mul_zero, Nat.mul_one, Nat.zero_le, Nat.not_lt_zero, bind_sm, bind_sm2, up_at, up_ms, up_mi, upA_at, upA_ms, c5, c16, c4, dn_n, x3, x4, cN, y2]
            · simp (maxSteps := 400000) (disch := omega) only [n32_lit, n32_add, n32_mul, n32_lt, n32_le, n32_eq, n32_nat, n32_inb, gd_dec, gdE, ↓nmE, ↓jnE, ↓bsE, Nat.reduceAdd, Nat.reduceMul, Nat.reduceSub, Nat.reduceLT, Nat.reduceLeDiff, Nat.reduceEqDiff, ↓reduceIte, decide_true, decide_false, and_true, true_and, and_false, false_and, or_false, false_or, or_true, true_or, not_true_eq_false, not_false_eq_true, eq_self, Nat.zero_add, Nat.add_zero, Nat.mul_zero, Nat.mul_one, Nat.zero_le, Nat.not_lt_zero, bind_sm, bind_sm2, up_at, up_ms, up_mi, upA_at, upA_ms, a1, b1.2.2.2, t16, fg, o1, h4of a2, dn_n, x2, y1, r_numberF y3, r_mustEndF y3, y3.ne]
        · refine StO.bad (m2' := m2) ?_ ?_ (a2.trans p1) p2 x4 x3
          · simp (maxSteps := 400000) (disch := omega) only [n32_lit, n32_add, n32_mul, n32_lt, n32_le, n32_eq, n32_nat, n32_inb, gd_dec, gdE, ↓nmE, ↓jnE, ↓bsE, Nat.reduceAdd, Nat.reduceMul, Nat.reduceSub, Nat.reduceLT, Nat.reduceLeDiff, Nat.reduceEqDiff, ↓reduceIte, decide_true, decide_false, and_true, true_and, and_false, false_and, or_false, false_or, or_true, true_or, not_true_eq_false, not_false_eq_true, eq_self, Nat.zero_add, Nat.add_zero, Nat.mul_zero, Nat.mul_one, Nat.zero_le, Nat.not_lt_zero, bind_sm, bind_sm2, up_at, up_ms, up_mi, upA_at, upA_ms, c5, c16, c4, dn_n, x2]
          · simp (maxSteps := 400000) (disch := omega) only [n32_lit, n32_add, n32_mul, n32_lt, n32_le, n32_eq, n32_nat, n32_inb, gd_dec, gdE, ↓nmE, ↓jnE, ↓bsE, Nat.reduceAdd, Nat.reduceMul, Nat.reduceSub, Nat.reduceLT, Nat.reduceLeDiff, Nat.reduceEqDiff, ↓reduceIte, decide_true, decide_false, and_true, true_and, and_false, false_and, or_false, false_or, or_true, true_or, not_true_eq_false, not_false_eq_true, eq_self, Nat.zero_add, Nat.add_zero, Nat.mul_zero, Nat.mul_one, Nat.zero_le, Nat.not_lt_zero, bind_sm, bind_sm2, up_at, up_ms, up_mi, upA_at, upA_ms, a1, b1.2.2.2, t16, fg, o1, h4of a2, dn_n, x1, r_numberF x3, r_mustEndF x3, x3.ne]
    · obtain ⟨w2, m3, p1, p2, p3⟩ := both_number b1 sm 0 (v 4) (by omega) (by omega)
      rcases p3 with ⟨x1, -⟩ | ⟨r, fk, fp, x1, x2, x3, x4⟩
      · exact absurd x1.1 hK
      · refine StO.bad (m2' := m2) ?_ ?_ (a2.trans p1) p2 x4 x3
        · simp (maxSteps := 400000) (disch := omega) only [n32_lit, n32_add, n32_mul, n32_lt, n32_le, n32_eq, n32_nat, n32_inb, gd_dec, gdE, ↓nmE, ↓jnE, ↓bsE, Nat.reduceAdd, Nat.reduceMul, Nat.reduceSub, Nat.reduceLT, Nat.reduceLeDiff, Nat.reduceEqDiff, ↓reduceIte, decide_true, decide_false, and_true, true_and, and_false, false_and, or_false, false_or, or_true, true_or, not_true_eq_false, not_false_eq_true, eq_self, Nat.zero_add, Nat.add_zero, Nat.mul_zero, Nat.mul_one, Nat.zero_le, Nat.not_lt_zero, bind_sm, bind_sm2, up_at, up_ms, up_mi, upA_at, upA_ms, c5, c16, c4, dn_n, x2]
        · simp (maxSteps := 400000) (disch := omega) only [n32_lit, n32_add, n32_mul, n32_lt, n32_le, n32_eq, n32_nat, n32_inb, gd_dec, gdE, ↓nmE, ↓jnE, ↓bsE, Nat.reduceAdd, Nat.reduceMul, Nat.reduceSub, Nat.reduceLT, Nat.reduceLeDiff, Nat.reduceEqDiff, ↓reduceIte, decide_true, decide_false, and_true, true_and, and_false, false_and, or_false, false_or, or_true, true_or, not_true_eq_false, not_false_eq_true, eq_self, Nat.zero_add, Nat.add_zero, Nat.mul_zero, Nat.mul_one, Nat.zero_le, Nat.not_lt_zero, bind_sm, bind_sm2, up_at, up_ms, up_mi, upA_at, upA_ms, a1, b1.2.2.2, t16, k3, hK, h4of a2, dn_n, x1, r_numberF x3, r_mustEndF x3, x3.ne]
  · obtain ⟨m3, d1, d2, d3⟩ := c_fail ht 3
    refine StO.bad (m2' := m2) ?_ ?_ a2 d2 d3 b1
    · simp (maxSteps := 400000) (disch := omega) only [n32_lit, n32_add, n32_mul, n32_lt, n32_le, n32_eq, n32_nat, n32_inb, gd_dec, gdE, ↓nmE, ↓jnE, ↓bsE, Nat.reduceAdd, Nat.reduceMul, Nat.reduceSub, Nat.reduceLT, Nat.reduceLeDiff, Nat.reduceEqDiff, ↓reduceIte, decide_true, decide_false, and_true, true_and, and_false, false_and, or_false, false_or, or_true, true_or, not_true_eq_false, not_false_eq_true, eq_self, Nat.zero_add, Nat.add_zero, Nat.mul_zero, Nat.mul_one, Nat.zero_le, Nat.not_lt_zero, bind_sm, bind_sm2, up_at, up_ms, up_mi, upA_at, upA_ms, c5, show ¬ v 5 < 3 by omega, d1, dec01]
    · simp (maxSteps := 400000) (disch := omega) only [n32_lit, n32_add, n32_mul, n32_lt, n32_le, n32_eq, n32_nat, n32_inb, gd_dec, gdE, ↓nmE, ↓jnE, ↓bsE, Nat.reduceAdd, Nat.reduceMul, Nat.reduceSub, Nat.reduceLT, Nat.reduceLeDiff, Nat.reduceEqDiff, ↓reduceIte, decide_true, decide_false, and_true, true_and, and_false, false_and, or_false, false_or, or_true, true_or, not_true_eq_false, not_false_eq_true, eq_self, Nat.zero_add, Nat.add_zero, Nat.mul_zero, Nat.mul_one, Nat.zero_le, Nat.not_lt_zero, bind_sm, bind_sm2, up_at, up_ms, up_mi, upA_at, upA_ms, a1, b1.ne, h4of a2, r_numberF b1, r_mustEndF b1]
theorem st_quarrel (hd : DR v w m2) (h8 : S8 n tp e w) (h7 : TP7 n tp m) (ht : Tok7 n tp e m) (hk0 : tkK n tp e ≠ 0) : StO n tp e w m (f_X5_readQuarrel m2 m) (f_X8_readQuarrel w) := by
  have hs := hd
  obtain ⟨h1, ⟨⟨c1, c2, c3, c4, c5, c6, c7, c8, c9⟩, cF, c10, c11⟩, ⟨v4, v5, v0, v1, v6, v7, vP, vC⟩, vM, vq, v2, v3⟩ := hs
  obtain ⟨g1, g2⟩ := tkE_ge (tp := tp) h8.e_le
  have g3 := tkE_gt (tp := tp) h8.e_le hk0
  have sm : S7 n tp (tkE n tp e) m := ⟨h7, ht.2.2.1, g2⟩
  obtain ⟨w1, a1, a2, a3⟩ := r_begins h8 (s := 6) (room := 6) (by omega) (h1 6 (by omega)) (by omega) (by omega)
  have h4of : ∀ {w'}, Fr PR8 w w' → w' 7 4 = n32 (v 4) := fun hf => by rw [hf 7 4 (by unfold PR8; omega)]; exact h1 4 (by omega)
  unfold f_X5_readQuarrel f_X8_readQuarrel
  rcases a3 with ⟨z, b1⟩ | ⟨z, b1⟩
  · have c16 : v 6 < 6 := by omega
    obtain ⟨w2, m3, p1, p2, p3⟩ := both_number b1 sm 0 (v 4) (by omega) (by omega)
    rcases p3 with ⟨x1, x2, x3, x4, x5, x6, -⟩ | ⟨r, fk, fp, x1, x2, x3, x4⟩
    · obtain ⟨-, -, va⟩ := x1
      generalize hA : nv n tp (tkE n tp e) = A at *
      obtain ⟨w3, m4, q1, q2, q3⟩ := both_unlike x5 x6 (v 4) A (by omega) va
      have h42 := h4of (a2.trans p1)
      rcases q3 with ⟨vb, y0, y1, y2, y3, y4, y5⟩ | ⟨r, fk, fp, y1, y2, y3⟩
      · generalize hB : nv n tp (tkE n tp (tkE n tp e)) = B at *
        have ab : ¬ A = B := fun q => y0 q.symm
        obtain ⟨w5, m6, u1, u2, u3⟩ := both_sign y4 y5
        have q8 := a2.trans (p1.trans (q1.trans u1))
        have q7 := p2.trans (q2.trans u2)
        have dw := hd.fr q8
        have hqa := dw.1 (72 + 4 * A + 3) (by omega)
        have hqb := dw.1 (72 + 4 * B + 3) (by omega)
        have h76 := dw.1 6 (by omega)
        have ca := (c8 A va).2.2.2
        have cb := (c8 B vb).2.2.2
        unfold f_X3_addQuarrel
        rcases u3 with ⟨i1, i2, i3, i4⟩ | ⟨fk, fp, i1, i2, i3, i4⟩
        · refine ⟨n32 1, _, m6, _, ?_, ?_, ?_, q7, Or.inl ⟨rfl, _, _, ?_, i4, ?_, dr_quarrel dw (a := A) (b := B) va vb ab c16⟩⟩
          · simp (maxSteps := 400000) (disch := omega) only [n32_lit, n32_add, n32_mul, n32_lt, n32_le, n32_eq, n32_nat, n32_inb, gd_dec, gdE, ↓nmE, ↓jnE, ↓bsE, Nat.reduceAdd, Nat.reduceMul, Nat.reduceSub, Nat.reduceLT, Nat.reduceLeDiff, Nat.reduceEqDiff, ↓reduceIte, decide_true, decide_false, and_true, true_and, and_false, false_and, or_false, false_or, or_true, true_or, not_true_eq_false, not_false_eq_true, eq_self, Nat.zero_add, Nat.add_zero, Nat.mul_zero, Nat.mul_one, Nat.zero_le, Nat.not_lt_zero, bind_sm, bind_sm2, up_at, up_ms, up_mi, upA_at, upA_ms, c3, c16, c4, dn_n, x3, x4, y2, y3, ab, ca, cb, n32_one, n32_or', show A < 7 by omega, show B < 7 by omega, i2, dec11]
          · simp (maxSteps := 400000) (disch := omega) only [n32_lit, n32_add, n32_mul, n32_lt, n32_le, n32_eq, n32_nat, n32_inb, gd_dec, gdE, ↓nmE, ↓jnE, ↓bsE, Nat.reduceAdd, Nat.reduceMul, Nat.reduceSub, Nat.reduceLT, Nat.reduceLeDiff, Nat.reduceEqDiff, ↓reduceIte, decide_true, decide_false, and_true, true_and, and_false, false_and, or_false, false_or, or_true, true_or, not_true_eq_false, not_false_eq_true, eq_self, Nat.zero_add, Nat.add_zero, Nat.mul_zero, Nat.mul_one, Nat.zero_le, Nat.not_lt_zero, bind_sm, bind_sm2, up_at, up_ms, up_mi, upA_at, upA_ms, a1, h4of a2, h42, dn_n, x2, y1, i1, i3.2.2.2, hqa, hqb, h76, n32_one, n32_or', show 72 + 4 * A + 3 < 109 by omega, show 72 + 4 * B + 3 < 109 by omega]
          · exact ((q8.e.up 7 _ _ (Or.inl rfl)).up 7 _ _ (Or.inl rfl)).up 7 _ _ (Or.inl rfl)
          · have o1 := tkE_ge (tp := tp) b1.e_le
            have o2 := tkE_ge (tp := tp) x5.e_le
            have o3 := tkE_ge (tp := tp) y4.e_le
            omega
          · exact ((i3.up7 _ _).up7 _ _).up7 _ _
        · refine StO.bad (m2' := up (up (up m2 15 A (n32 (v (72 + 4 * A + 3) ||| 2 ^ B))) 15 B (n32 (v (72 + 4 * B + 3) ||| 2 ^ A))) 0 5 (n32 (v 6 + 1))) ?_ ?_ q8 q7 i4 i3
          · simp (maxSteps := 400000) (disch := omega) only [n32_lit, n32_add, n32_mul, n32_lt, n32_le, n32_eq, n32_nat, n32_inb, gd_dec, gdE, ↓nmE, ↓jnE, ↓bsE, Nat.reduceAdd, Nat.reduceMul, Nat.reduceSub, Nat.reduceLT, Nat.reduceLeDiff, Nat.reduceEqDiff, ↓reduceIte, decide_true, decide_false, and_true, true_and, and_false, false_and, or_false, false_or, or_true, true_or, not_true_eq_false, not_false_eq_true, eq_self, Nat.zero_add, Nat.add_zero, Nat.mul_zero, Nat.mul_one, Nat.zero_le, Nat.not_lt_zero, bind_sm, bind_sm2, up_at, up_ms, up_mi, upA_at, upA_ms, c3, c16, c4, dn_n, x3, x4, y2, y3, ab, ca, cb, n32_one, n32_or', show A < 7 by omega, show B < 7 by omega, i2, dec01]
          · simp (maxSteps := 400000) (disch := omega) only [n32_lit, n32_add, n32_mul, n32_lt, n32_le, n32_eq, n32_nat, n32_inb, gd_dec, gdE, ↓nmE, ↓jnE, ↓bsE, Nat.reduceAdd, Nat.reduceMul, Nat.reduceSub, Nat.reduceLT, Nat.reduceLeDiff, Nat.reduceEqDiff, ↓reduceIte, decide_true, decide_false, and_true, true_and, and_false, false_and, or_false, false_or, or_true, true_or, not_true_eq_false, not_false_eq_true, eq_self, Nat.zero_add, Nat.add_zero, Nat.mul_zero, Nat.mul_one, Nat.zero_le, Nat.not_lt_zero, bind_sm, bind_sm2, up_at, up_ms, up_mi, upA_at, upA_ms, a1, h4of a2, h42, dn_n, x2, y1, i1, i3.ne]
      · have w8 : f_X8_readQuarrel w = some w3 := by
          unfold f_X8_readQuarrel
          simp (maxSteps := 400000) (disch := omega) only [n32_lit, n32_add, n32_mul, n32_lt, n32_le, n32_eq, n32_nat, n32_inb, gd_dec, gdE, ↓nmE, ↓jnE, ↓bsE, Nat.reduceAdd, Nat.reduceMul, Nat.reduceSub, Nat.reduceLT, Nat.reduceLeDiff, Nat.reduceEqDiff, ↓reduceIte, decide_true, decide_false, and_true, true_and, and_false, false_and, or_false, false_or, or_true, true_or, not_true_eq_false, not_false_eq_true, eq_self, Nat.zero_add, Nat.add_zero, Nat.mul_zero, Nat.mul_one, Nat.zero_le, Nat.not_lt_zero, bind_sm, bind_sm2, up_at, up_ms, up_mi, upA_at, upA_ms, a1, h4of a2, h42, dn_n, x2, y1, r_mustEndF y2, y2.ne]
        unfold f_X8_readQuarrel at w8
        rcases y3 with ⟨y3, y4⟩ | ⟨m'', y3, y4, y5, y6⟩
        · refine StO.bad (m2' := m2) ?_ w8 (a2.trans (p1.trans q1)) (p2.trans q2) y4 y2
          simp (maxSteps := 400000) (disch := omega) only [n32_lit, n32_add, n32_mul, n32_lt, n32_le, n32_eq, n32_nat, n32_inb, gd_dec, gdE, ↓nmE, ↓jnE, ↓bsE, Nat.reduceAdd, Nat.reduceMul, Nat.reduceSub, Nat.reduceLT, Nat.reduceLeDiff, Nat.reduceEqDiff, ↓reduceIte, decide_true, decide_false, and_true, true_and, and_false, false_and, or_false, false_or, or_true, true_or, not_true_eq_false, not_false_eq_true, eq_self, Nat.zero_add, Nat.add_zero, Nat.mul_zero, Nat.mul_one, Nat.zero_le, Nat.not_lt_zero, bind_sm, bind_sm2, up_at, up_ms, up_mi, upA_at, upA_ms, c3, c16, c4, dn_n, x3, x4, y3]
        · refine StO.bad (m2' := m2) ?_ w8 (a2.trans (p1.trans q1)) (p2.trans q2) y6 y2
          simp (maxSteps := 400000) (disch := omega) only [n32_lit, n32_add, n32_mul, n32_lt, n32_le, n32_eq, n32_nat, n32_inb, gd_dec, gdE, ↓nmE, ↓jnE, ↓bsE, Nat.reduceAdd, Nat.reduceMul, Nat.reduceSub, Nat.reduceLT, Nat.reduceLeDiff, Nat.reduceEqDiff, ↓reduceIte, decide_true, decide_false, and_true, true_and, and_false, false_and, or_false, false_or, or_true, true_or, not_true_eq_false, not_false_eq_true, eq_self, Nat.zero_add, Nat.add_zero, Nat.mul_zero, Nat.mul_one, Nat.zero_le, Nat.not_lt_zero, bind_sm, bind_sm2, up_at, up_ms, up_mi, upA_at, upA_ms, c3, c16, c4, dn_n, x3, x4, y3, y4, y5, dec01]
    · refine StO.bad (m2' := m2) ?_ ?_ (a2.trans p1) p2 x4 x3
      · simp (maxSteps := 400000) (disch := omega) only [n32_lit, n32_add, n32_mul, n32_lt, n32_le, n32_eq, n32_nat, n32_inb, gd_dec, gdE, ↓nmE, ↓jnE, ↓bsE, Nat.reduceAdd, Nat.reduceMul, Nat.reduceSub, Nat.reduceLT, Nat.reduceLeDiff, Nat.reduceEqDiff, ↓reduceIte, decide_true, decide_false, and_true, true_and, and_false, false_and, or_false, false_or, or_true, true_or, not_true_eq_false, not_false_eq_true, eq_self, Nat.zero_add, Nat.add_zero, Nat.mul_zero, Nat.mul_one, Nat.zero_le, Nat.not_lt_zero, bind_sm, bind_sm2, up_at, up_ms, up_mi, upA_at, upA_ms, c3, c16, c4, dn_n, x2]
      · simp (maxSteps := 400000) (disch := omega) only [n32_lit, n32_add, n32_mul, n32_lt, n32_le, n32_eq, n32_nat, n32_inb, gd_dec, gdE, ↓nmE, ↓jnE, ↓bsE, Nat.reduceAdd, Nat.reduceMul, Nat.reduceSub, Nat.reduceLT, Nat.reduceLeDiff, Nat.reduceEqDiff, ↓reduceIte, decide_true, decide_false, and_true, true_and, and_false, false_and, or_false, false_or, or_true, true_or, not_true_eq_false, not_false_eq_true, eq_self, Nat.zero_add, Nat.add_zero, Nat.mul_zero, Nat.mul_one, Nat.zero_le, Nat.not_lt_zero, bind_sm, bind_sm2, up_at, up_ms, up_mi, upA_at, upA_ms, a1, h4of a2, h4of (a2.trans p1), dn_n, x1, r_unlikeF x3, r_mustEndF x3, x3.ne]
  · obtain ⟨m3, d1, d2, d3⟩ := c_fail ht 3
    refine StO.bad (m2' := m2) ?_ ?_ a2 d2 d3 b1
    · simp (maxSteps := 400000) (disch := omega) only [n32_lit, n32_add, n32_mul, n32_lt, n32_le, n32_eq, n32_nat, n32_inb, gd_dec, gdE, ↓nmE, ↓jnE, ↓bsE, Nat.reduceAdd, Nat.reduceMul, Nat.reduceSub, Nat.reduceLT, Nat.reduceLeDiff, Nat.reduceEqDiff, ↓reduceIte, decide_true, decide_false, and_true, true_and, and_false, false_and, or_false, false_or, or_true, true_or, not_true_eq_false, not_false_eq_true, eq_self, Nat.zero_add, Nat.add_zero, Nat.mul_zero, Nat.mul_one, Nat.zero_le, Nat.not_lt_zero, bind_sm, bind_sm2, up_at, up_ms, up_mi, upA_at, upA_ms, c3, show ¬ v 6 < 6 by omega, d1, dec01]
    · simp (maxSteps := 400000) (disch := omega) only [n32_lit, n32_add, n32_mul, n32_lt, n32_le, n32_eq, n32_nat, n32_inb, gd_dec, gdE, ↓nmE, ↓jnE, ↓bsE, Nat.reduceAdd, Nat.reduceMul, Nat.reduceSub, Nat.reduceLT, Nat.reduceLeDiff, Nat.reduceEqDiff, ↓reduceIte, decide_true, decide_false, and_true, true_and, and_false, false_and, or_false, false_or, or_true, true_or, not_true_eq_false, not_false_eq_true, eq_self, Nat.zero_add, Nat.add_zero, Nat.mul_zero, Nat.mul_one, Nat.zero_le, Nat.not_lt_zero, bind_sm, bind_sm2, up_at, up_ms, up_mi, upA_at, upA_ms, a1, h4of a2, r_numberF b1, r_unlikeF b1, r_mustEndF b1, b1.ne]
end TK
