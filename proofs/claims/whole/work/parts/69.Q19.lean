/-! the statements -/
section TK
variable {n e fk fp : Nat} {tp : Nat → Nat} {m w m2 : Mem} {v : Nat → Nat}
theorem StO.bad {m2' m' w' : Mem} {f7 : Option (Int32 × Mem × Mem)} {f8 : Option Mem} (e7 : f7 = some (n32 0, m2', m')) (e8 : f8 = some w') (r8 : Fr PR8 w w') (r7 : Fr PR7 m m') (h7 : F7 fk fp m') (h8 : F8 n tp fk fp w') : StO n tp e w m f7 f8 :=
  ⟨n32 0, m2', m', w', e7, e8, r8.e, r7, Or.inr ⟨rfl, fk, fp, h7, h8⟩⟩
theorem st_hill (hd : DR v w m2) (h8 : S8 n tp e w) (h7 : TP7 n tp m) (ht : Tok7 n tp e m) (hk0 : tkK n tp e ≠ 0) : StO n tp e w m (f_X5_readHill m2 m) (f_X8_readHill w) := by
  have hs := hd
  obtain ⟨h1, ⟨⟨c1, c2, c3, c4, c5, c6, c7, c8, c9⟩, cF, c10, c11⟩, ⟨v4, v5, v0, v1, v6, v7, vP, vC⟩, vM, vq, v2, v3⟩ := hs
  obtain ⟨g1, g2⟩ := tkE_ge (tp := tp) h8.e_le
  have sm : S7 n tp (tkE n tp e) m := ⟨h7, ht.2.2.1, g2⟩
  obtain ⟨w1, a1, a2, a3⟩ := r_begins h8 (s := 3) (room := 7) (by omega) (h1 3 (by omega)) (by omega) (by omega)
  unfold f_X5_readHill f_X8_readHill
  rcases a3 with ⟨z, b1⟩ | ⟨z, b1⟩
  · obtain ⟨w2, m3, p1, p2, p3⟩ := both_number b1 sm 1 (7 + 1) (by omega) (by omega)
    rw [dn_s] at p3
    rcases p3 with ⟨x1, x2, x3, x4, x5, x6, -⟩ | ⟨r, fk, fp, x1, x2, x3, x4⟩
    · obtain ⟨-, vl1, vl⟩ := x1
      obtain ⟨w3, m4, q1, q2, q3⟩ := both_sign x5 x6
      have q8 := a2.trans (p1.trans q1)
      have dw := hd.fr q8
      have h77 := dw.1 7 (by omega)
      have h73 := dw.1 3 (by omega)
      unfold f_X3_addHill
      rcases q3 with ⟨y1, y2, y3, y4⟩ | ⟨fk, fp, y1, y2, y3, y4⟩
      · refine ⟨n32 1, _, m4, _, ?_, ?_, ?_, p2.trans q2, Or.inl ⟨rfl, _, _, ?_, y4, ?_, dr_hill dw (x := nv n tp (tkE n tp e)) ⟨vl1, by omega⟩ (by omega)⟩⟩
        · simp (maxSteps := 400000) (disch := omega) only [n32_lit, n32_add, n32_mul, n32_lt, n32_le, n32_eq, n32_nat, n32_inb, gd_dec, gdE, ↓nmE, ↓jnE, ↓bsE, Nat.reduceAdd, Nat.reduceMul, Nat.reduceSub, Nat.reduceLT, Nat.reduceLeDiff, Nat.reduceEqDiff, ↓reduceIte, decide_true, decide_false, and_true, true_and, and_false, false_and, or_false, false_or, or_true, true_or, not_true_eq_false, not_false_eq_true, eq_self, Nat.zero_add, Nat.add_zero, Nat.mul_zero, Nat.mul_one, Nat.zero_le, Nat.not_lt_zero, bind_sm, bind_sm2, up_at, up_ms, up_mi, upA_at, upA_ms, c11, show v 3 < 7 by omega, x3, x4, c6, n32_one, n32_or', y2, dec11]
        · simp (maxSteps := 400000) (disch := omega) only [n32_lit, n32_add, n32_mul, n32_lt, n32_le, n32_eq, n32_nat, n32_inb, gd_dec, gdE, ↓nmE, ↓jnE, ↓bsE, Nat.reduceAdd, Nat.reduceMul, Nat.reduceSub, Nat.reduceLT, Nat.reduceLeDiff, Nat.reduceEqDiff, ↓reduceIte, decide_true, decide_false, and_true, true_and, and_false, false_and, or_false, false_or, or_true, true_or, not_true_eq_false, not_false_eq_true, eq_self, Nat.zero_add, Nat.add_zero, Nat.mul_zero, Nat.mul_one, Nat.zero_le, Nat.not_lt_zero, bind_sm, bind_sm2, up_at, up_ms, up_mi, upA_at, upA_ms, a1, x2, y1, y3.2.2.2, h77, h73, n32_one, n32_or']
        · exact (q8.e.up 7 _ _ (Or.inl rfl)).up 7 _ _ (Or.inl rfl)
        · have q1 := tkE_ge (tp := tp) b1.e_le
          have q2 := tkE_ge (tp := tp) x5.e_le
          have q3 := tkE_gt (tp := tp) h8.e_le hk0
          omega
        · exact (y3.up7 _ _).up7 _ _
      · refine StO.bad (m2' := up (up m2 0 8 (n32 (v 7 ||| 2 ^ nv n tp (tkE n tp e)))) 0 4 (n32 (v 3 + 1))) ?_ ?_ q8 (p2.trans q2) y4 y3
        · simp (maxSteps := 400000) (disch := omega) only [n32_lit, n32_add, n32_mul, n32_lt, n32_le, n32_eq, n32_nat, n32_inb, gd_dec, gdE, ↓nmE, ↓jnE, ↓bsE, Nat.reduceAdd, Nat.reduceMul, Nat.reduceSub, Nat.reduceLT, Nat.reduceLeDiff, Nat.reduceEqDiff, ↓reduceIte, decide_true, decide_false, and_true, true_and, and_false, false_and, or_false, false_or, or_true, true_or, not_true_eq_false, not_false_eq_true, eq_self, Nat.zero_add, Nat.add_zero, Nat.mul_zero, Nat.mul_one, Nat.zero_le, Nat.not_lt_zero, bind_sm, bind_sm2, up_at, up_ms, up_mi, upA_at, upA_ms, c11, show v 3 < 7 by omega, x3, x4, c6, n32_one, n32_or', y2, dec01]
        · simp (maxSteps := 400000) (disch := omega) only [n32_lit, n32_add, n32_mul, n32_lt, n32_le, n32_eq, n32_nat, n32_inb, gd_dec, gdE, ↓nmE, ↓jnE, ↓bsE, Nat.reduceAdd, Nat.reduceMul, Nat.reduceSub, Nat.reduceLT, Nat.reduceLeDiff, Nat.reduceEqDiff, ↓reduceIte, decide_true, decide_false, and_true, true_and, and_false, false_and, or_false, false_or, or_true, true_or, not_true_eq_false, not_false_eq_true, eq_self, Nat.zero_add, Nat.add_zero, Nat.mul_zero, Nat.mul_one, Nat.zero_le, Nat.not_lt_zero, bind_sm, bind_sm2, up_at, up_ms, up_mi, upA_at, upA_ms, a1, x2, y1, y3.ne]
    · refine StO.bad (m2' := m2) ?_ ?_ (a2.trans p1) p2 x4 x3
      · simp (maxSteps := 400000) (disch := omega) only [n32_lit, n32_add, n32_mul, n32_lt, n32_le, n32_eq, n32_nat, n32_inb, gd_dec, gdE, ↓nmE, ↓jnE, ↓bsE, Nat.reduceAdd, Nat.reduceMul, Nat.reduceSub, Nat.reduceLT, Nat.reduceLeDiff, Nat.reduceEqDiff, ↓reduceIte, decide_true, decide_false, and_true, true_and, and_false, false_and, or_false, false_or, or_true, true_or, not_true_eq_false, not_false_eq_true, eq_self, Nat.zero_add, Nat.add_zero, Nat.mul_zero, Nat.mul_one, Nat.zero_le, Nat.not_lt_zero, bind_sm, bind_sm2, up_at, up_ms, up_mi, upA_at, upA_ms, c11, show v 3 < 7 by omega, x2]
      · simp (maxSteps := 400000) (disch := omega) only [n32_lit, n32_add, n32_mul, n32_lt, n32_le, n32_eq, n32_nat, n32_inb, gd_dec, gdE, ↓nmE, ↓jnE, ↓bsE, Nat.reduceAdd, Nat.reduceMul, Nat.reduceSub, Nat.reduceLT, Nat.reduceLeDiff, Nat.reduceEqDiff, ↓reduceIte, decide_true, decide_false, and_true, true_and, and_false, false_and, or_false, false_or, or_true, true_or, not_true_eq_false, not_false_eq_true, eq_self, Nat.zero_add, Nat.add_zero, Nat.mul_zero, Nat.mul_one, Nat.zero_le, Nat.not_lt_zero, bind_sm, bind_sm2, up_at, up_ms, up_mi, upA_at, upA_ms, a1, x1, r_mustEndF x3, x3.ne]
  · obtain ⟨m3, d1, d2, d3⟩ := c_fail ht 3
    refine StO.bad (m2' := m2) ?_ ?_ a2 d2 d3 b1
    · simp (maxSteps := 400000) (disch := omega) only [n32_lit, n32_add, n32_mul, n32_lt, n32_le, n32_eq, n32_nat, n32_inb, gd_dec, gdE, ↓nmE, ↓jnE, ↓bsE, Nat.reduceAdd, Nat.reduceMul, Nat.reduceSub, Nat.reduceLT, Nat.reduceLeDiff, Nat.reduceEqDiff, ↓reduceIte, decide_true, decide_false, and_true, true_and, and_false, false_and, or_false, false_or, or_true, true_or, not_true_eq_false, not_false_eq_true, eq_self, Nat.zero_add, Nat.add_zero, Nat.mul_zero, Nat.mul_one, Nat.zero_le, Nat.not_lt_zero, bind_sm, bind_sm2, up_at, up_ms, up_mi, upA_at, upA_ms, c11, show ¬ v 3 < 7 by omega, d1, dec01]
    · simp (maxSteps := 400000) (disch := omega) only [n32_lit, n32_add, n32_mul, n32_lt, n32_le, n32_eq, n32_nat, n32_inb, gd_dec, gdE, ↓nmE, ↓jnE, ↓bsE, Nat.reduceAdd, Nat.reduceMul, Nat.reduceSub, Nat.reduceLT, Nat.reduceLeDiff, Nat.reduceEqDiff, ↓reduceIte, decide_true, decide_false, and_true, true_and, and_false, false_and, or_false, false_or, or_true, true_or, not_true_eq_false, not_false_eq_true, eq_self, Nat.zero_add, Nat.add_zero, Nat.mul_zero, Nat.mul_one, Nat.zero_le, Nat.not_lt_zero, bind_sm, bind_sm2, up_at, up_ms, up_mi, upA_at, upA_ms, a1, r_numberF b1, r_mustEndF b1, b1.ne]
theorem st_way (hd : DR v w m2) (h8 : S8 n tp e w) (h7 : TP7 n tp m) (ht : Tok7 n tp e m) (hk0 : tkK n tp e ≠ 0) : StO n tp e w m (f_X5_readWay m2 m) (f_X8_readWay w) := by
  have hs := hd
  obtain ⟨h1, ⟨⟨c1, c2, c3, c4, c5, c6, c7, c8, c9⟩, cF, c10, c11⟩, ⟨v4, v5, v0, v1, v6, v7, vP, vC⟩, vM, vq, v2, v3⟩ := hs
  obtain ⟨g1, g2⟩ := tkE_ge (tp := tp) h8.e_le
  have g3 := tkE_gt (tp := tp) h8.e_le hk0
  have sm : S7 n tp (tkE n tp e) m := ⟨h7, ht.2.2.1, g2⟩
  obtain ⟨w1, a1, a2, a3⟩ := r_begins h8 (s := 2) (room := 16) (by omega) (h1 2 (by omega)) (by omega) (by omega)
  unfold f_X5_readWay f_X8_readWay
  rcases a3 with ⟨z, b1⟩ | ⟨z, b1⟩
  · have c16 : v 2 < 16 := by omega
    obtain ⟨w2, m3, p1, p2, p3⟩ := both_number b1 sm 0 (7 + 1) (by omega) (by omega)
    rw [dn_s] at p3
    rcases p3 with ⟨x1, x2, x3, x4, x5, x6, -⟩ | ⟨r, fk, fp, x1, x2, x3, x4⟩
    · obtain ⟨-, -, va⟩ := x1
      generalize hA : nv n tp (tkE n tp e) = A at *
      obtain ⟨w3, m4, q1, q2, q3⟩ := both_unlike x5 x6 (7 + 1) A (by omega) va
      rw [dn_s] at q3
      rcases q3 with ⟨vb, y0, y1, y2, y3, y4, y5⟩ | ⟨r, fk, fp, y1, y2, y3⟩
      · generalize hB : nv n tp (tkE n tp (tkE n tp e)) = B at *
        have ab : ¬ A = B := fun q => y0 q.symm
        obtain ⟨w4, m5, s1, s2, s3⟩ := both_number y4 y5 1 (99 + 1) (by omega) (by omega)
        rw [dn_s] at s3
        rcases s3 with ⟨t1, t2, t3, t4, t5, t6, -⟩ | ⟨r, fk, fp, t1, t2, t3, t4⟩
        · obtain ⟨-, vx1, vx⟩ := t1
          generalize hX : nv n tp (tkE n tp (tkE n tp (tkE n tp e))) = X at *
          obtain ⟨w5, m6, u1, u2, u3⟩ := both_sign t5 t6
          have q8 := a2.trans (p1.trans (q1.trans (s1.trans u1)))
          have q7 := p2.trans (q2.trans (s2.trans u2))
          have dw := hd.fr q8
          have hcell := dw.1 (8 + 8 * A + B) (by omega)
          have h72 := dw.1 2 (by omega)
          obtain ⟨k1, k2, k3⟩ := vM A B (by omega) (by omega)
          have cc := cF (A * 8 + B) (by omega)
          rw [show 8 + (A * 8 + B) = 8 + 8 * A + B by omega] at cc
          have hL : (if X ≤ v (8 + 8 * A + B) then X else v (8 + 8 * A + B)) ≤ 99 := by split <;> omega
          have L7 : (if farC (v (8 + 8 * A + B)) < X then n32 (farC (v (8 + 8 * A + B))) else n32 X) = n32 (if X ≤ v (8 + 8 * A + B) then X else v (8 + 8 * A + B)) := by
            rcases k1 with k1 | k1
            · rw [farC_900 (by omega)]
              by_cases q : X ≤ v (8 + 8 * A + B)
              · rw [if_neg (by omega), if_pos q]
              · rw [if_pos (by omega), if_neg q]
            · rw [k1, farC_big, if_neg (by omega), if_pos (by omega)]
          have fc : farC (v (8 + 8 * A + B)) ≤ 1000000 := by unfold farC; split <;> omega
          generalize hLL : (if X ≤ v (8 + 8 * A + B) then X else v (8 + 8 * A + B)) = L at *
          unfold f_X3_addWay f_X3_minutesBetween
          rcases u3 with ⟨i1, i2, i3, i4⟩ | ⟨fk, fp, i1, i2, i3, i4⟩
          · refine ⟨n32 1, _, m6, _, ?_, ?_, ?_, q7, Or.inl ⟨rfl, _, _, ?_, i4, ?_, dr_way dw (a := A) (b := B) (L := L) (by omega) (by omega) ab hL c16⟩⟩
            · simp (maxSteps := 400000) (disch := omega) only [n32_lit, n32_add, n32_mul, n32_lt, n32_le, n32_eq, n32_nat, n32_inb, gd_dec, gdE, ↓nmE, ↓jnE, ↓bsE, Nat.reduceAdd, Nat.reduceMul, Nat.reduceSub, Nat.reduceLT, Nat.reduceLeDiff, Nat.reduceEqDiff, ↓reduceIte, decide_true, decide_false, and_true, true_and, and_false, false_and, or_false, false_or, or_true, true_or, not_true_eq_false, not_false_eq_true, eq_self, Nat.zero_add, Nat.add_zero, Nat.mul_zero, Nat.mul_one, Nat.zero_le, Nat.not_lt_zero, bind_sm, bind_sm2, up_at, up_ms, up_mi, upA_at, upA_ms, c10, c16, x3, x4, y2, y3, ab, t3, t4, cc, L7, show A * 8 + B < 64 by omega, show B * 8 + A < 64 by omega, i2, dec11]
            · simp (maxSteps := 400000) (disch := omega) only [n32_lit, n32_add, n32_mul, n32_lt, n32_le, n32_eq, n32_nat, n32_inb, gd_dec, gdE, ↓nmE, ↓jnE, ↓bsE, Nat.reduceAdd, Nat.reduceMul, Nat.reduceSub, Nat.reduceLT, Nat.reduceLeDiff, Nat.reduceEqDiff, ↓reduceIte, decide_true, decide_false, and_true, true_and, and_false, false_and, or_false, false_or, or_true, true_or, not_true_eq_false, not_false_eq_true, eq_self, Nat.zero_add, Nat.add_zero, Nat.mul_zero, Nat.mul_one, Nat.zero_le, Nat.not_lt_zero, bind_sm, bind_sm2, up_at, up_ms, up_mi, upA_at, upA_ms, a1, x2, y1, t2, i1, i3.2.2.2, hcell, show 8 + 8 * A + B < 109 by omega, show 8 + 8 * B + A < 109 by omega]
              by_cases q : X ≤ v (8 + 8 * A + B)
              · rw [if_pos q] at hLL
                subst hLL
                simp (maxSteps := 400000) (disch := omega) only [n32_lit, n32_add, n32_mul, n32_lt, n32_le, n32_eq, n32_nat, n32_inb, gd_dec, gdE, ↓nmE, ↓jnE, ↓bsE, Nat.reduceAdd, Nat.reduceMul, Nat.reduceSub, Nat.reduceLT, Nat.reduceLeDiff, Nat.reduceEqDiff, ↓reduceIte, decide_true, decide_false, and_true, true_and, and_false, false_and, or_false, false_or, or_true, true_or, not_true_eq_false, not_false_eq_true, eq_self, Nat.zero_add, Nat.add_zero, Nat.mul_zero, Nat.mul_one, Nat.zero_le, Nat.not_lt_zero, bind_sm, bind_sm2, up_at, up_ms, up_mi, upA_at, upA_ms, q, h72]
              · rw [if_neg q] at hLL
                subst hLL
                simp (maxSteps := 400000) (disch := omega) only [n32_lit, n32_add, n32_mul, n32_lt, n32_le, n32_eq, n32_nat, n32_inb, gd_dec, gdE, ↓nmE, ↓jnE, ↓bsE, Nat.reduceAdd, Nat.reduceMul, Nat.reduceSub, Nat.reduceLT, Nat.reduceLeDiff, Nat.reduceEqDiff, ↓reduceIte, decide_true, decide_false, and_true, true_and, and_false, false_and, or_false, false_or, or_true, true_or, not_true_eq_false, not_false_eq_true, eq_self, Nat.zero_add, Nat.add_zero, Nat.mul_zero, Nat.mul_one, Nat.zero_le, Nat.not_lt_zero, bind_sm, bind_sm2, up_at, up_ms, up_mi, upA_at, upA_ms, q, h72]
            · exact ((q8.e.up 7 _ _ (Or.inl rfl)).up 7 _ _ (Or.inl rfl)).up 7 _ _ (Or.inl rfl)
            · have o1 := tkE_ge (tp := tp) b1.e_le
              have o2 := tkE_ge (tp := tp) x5.e_le
              have o3 := tkE_ge (tp := tp) y4.e_le
              have o4 := tkE_ge (tp := tp) t5.e_le
              omega
            · exact ((i3.up7 _ _).up7 _ _).up7 _ _
          · refine StO.bad (m2' := up (up (up m2 11 (A * 8 + B) (n32 L)) 11 (B * 8 + A) (n32 L)) 0 3 (n32 (v 2 + 1))) ?_ ?_ q8 q7 i4 i3
            · simp (maxSteps := 400000) (disch := omega) only [n32_lit, n32_add, n32_mul, n32_lt, n32_le, n32_eq, n32_nat, n32_inb, gd_dec, gdE, ↓nmE, ↓jnE, ↓bsE, Nat.reduceAdd, Nat.reduceMul, Nat.reduceSub, Nat.reduceLT, Nat.reduceLeDiff, Nat.reduceEqDiff, ↓reduceIte, decide_true, decide_false, and_true, true_and, and_false, false_and, or_false, false_or, or_true, true_or, not_true_eq_false, not_false_eq_true, eq_self, Nat.zero_add, Nat.add_zero, Nat.mul_zero, Nat.mul_one, Nat.zero_le, Nat.not_lt_zero, bind_sm, bind_sm2, up_at, up_ms, up_mi, upA_at, upA_ms, c10, c16, x3, x4, y2, y3, ab, t3, t4, cc, L7, show A * 8 + B < 64 by omega, show B * 8 + A < 64 by omega, i2, dec01]
            · simp (maxSteps := 400000) (disch := omega) only [n32_lit, n32_add, n32_mul, n32_lt, n32_le, n32_eq, n32_nat, n32_inb, gd_dec, gdE, ↓nmE, ↓jnE, ↓bsE, Nat.reduceAdd, Nat.reduceMul, Nat.reduceSub, Nat.reduceLT, Nat.reduceLeDiff, Nat.reduceEqDiff, ↓reduceIte, decide_true, decide_false, and_true, true_and, and_false, false_and, or_false, false_or, or_true, true_or, not_true_eq_false, not_false_eq_true, eq_self, Nat.zero_add, Nat.add_zero, Nat.mul_zero, Nat.mul_one, Nat.zero_le, Nat.not_lt_zero, bind_sm, bind_sm2, up_at, up_ms, up_mi, upA_at, upA_ms, a1, x2, y1, t2, i1, i3.ne]
        · refine StO.bad (m2' := m2) ?_ ?_ (a2.trans (p1.trans (q1.trans s1))) (p2.trans (q2.trans s2)) t4 t3
          · simp (maxSteps := 400000) (disch := omega) only [n32_lit, n32_add, n32_mul, n32_lt, n32_le, n32_eq, n32_nat, n32_inb, gd_dec, gdE, ↓nmE, ↓jnE, ↓bsE, Nat.reduceAdd, Nat.reduceMul, Nat.reduceSub, Nat.reduceLT, Nat.reduceLeDiff, Nat.reduceEqDiff, ↓reduceIte, decide_true, decide_false, and_true, true_and, and_false, false_and, or_false, false_or, or_true, true_or, not_true_eq_false, not_false_eq_true, eq_self, Nat.zero_add, Nat.add_zero, Nat.mul_zero, Nat.mul_one, Nat.zero_le, Nat.not_lt_zero, bind_sm, bind_sm2, up_at, up_ms, up_mi, upA_at, upA_ms, c10, c16, x3, x4, y2, y3, ab, t2]
          · simp (maxSteps := 400000) (disch := omega) only [n32_lit, n32_add, n32_mul, n32_lt, n32_le, n32_eq, n32_nat, n32_inb, gd_dec, gdE, ↓nmE, ↓jnE, ↓bsE, Nat.reduceAdd, Nat.reduceMul, Nat.reduceSub, Nat.reduceLT, Nat.reduceLeDiff, Nat.reduceEqDiff, ↓reduceIte, decide_true, decide_false, and_true, true_and, and_false, false_and, or_false, false_or, or_true, true_or, not_true_eq_false, not_false_eq_true, eq_self, Nat.zero_add, Nat.add_zero, Nat.mul_zero, Nat.mul_one, Nat.zero_le, Nat.not_lt_zero, bind_sm, bind_sm2, up_at, up_ms, up_mi, upA_at, upA_ms, a1, x2, y1, t1, r_mustEndF t3, t3.ne]
      · have w8 : f_X8_readWay w = some w3 := by
          unfold f_X8_readWay
          simp (maxSteps := 400000) (disch := omega) only [n32_lit, n32_add, n32_mul, n32_lt, n32_le, n32_eq, n32_nat, n32_inb, gd_dec, gdE, ↓nmE, ↓jnE, ↓bsE, Nat.reduceAdd, Nat.reduceMul, Nat.reduceSub, Nat.reduceLT, Nat.reduceLeDiff, Nat.reduceEqDiff, ↓reduceIte, decide_true, decide_false, and_true, true_and, and_false, false_and, or_false, false_or, or_true, true_or, not_true_eq_false, not_false_eq_true, eq_self, Nat.zero_add, Nat.add_zero, Nat.mul_zero, Nat.mul_one, Nat.zero_le, Nat.not_lt_zero, bind_sm, bind_sm2, up_at, up_ms, up_mi, upA_at, upA_ms, a1, x2, y1, r_numberF y2, r_mustEndF y2, y2.ne]
        unfold f_X8_readWay at w8
        rcases y3 with ⟨y3, y4⟩ | ⟨m'', y3, y4, y5, y6⟩
        · refine StO.bad (m2' := m2) ?_ w8 (a2.trans (p1.trans q1)) (p2.trans q2) y4 y2
          simp (maxSteps := 400000) (disch := omega) only [n32_lit, n32_add, n32_mul, n32_lt, n32_le, n32_eq, n32_nat, n32_inb, gd_dec, gdE, ↓nmE, ↓jnE, ↓bsE, Nat.reduceAdd, Nat.reduceMul, Nat.reduceSub, Nat.reduceLT, Nat.reduceLeDiff, Nat.reduceEqDiff, ↓reduceIte, decide_true, decide_false, and_true, true_and, and_false, false_and, or_false, false_or, or_true, true_or, not_true_eq_false, not_false_eq_true, eq_self, Nat.zero_add, Nat.add_zero, Nat.mul_zero, Nat.mul_one, Nat.zero_le, Nat.not_lt_zero, bind_sm, bind_sm2, up_at, up_ms, up_mi, upA_at, upA_ms, c10, c16, x3, x4, y3]
        · refine StO.bad (m2' := m2) ?_ w8 (a2.trans (p1.trans q1)) (p2.trans q2) y6 y2
          simp (maxSteps := 400000) (disch := omega) only [n32_lit, n32_add, n32_mul, n32_lt, n32_le, n32_eq, n32_nat, n32_inb, gd_dec, gdE, ↓nmE, ↓jnE, ↓bsE, Nat.reduceAdd, Nat.reduceMul, Nat.reduceSub, Nat.reduceLT, Nat.reduceLeDiff, Nat.reduceEqDiff, ↓reduceIte, decide_true, decide_false, and_true, true_and, and_false, false_and, or_false, false_or, or_true, true_or, not_true_eq_false, not_false_eq_true, eq_self, Nat.zero_add, Nat.add_zero, Nat.mul_zero, Nat.mul_one, Nat.zero_le, Nat.not_lt_zero, bind_sm, bind_sm2, up_at, up_ms, up_mi, upA_at, upA_ms, c10, c16, x3, x4, y3, y4, y5, dec01]
    · refine StO.bad (m2' := m2) ?_ ?_ (a2.trans p1) p2 x4 x3
      · simp (maxSteps := 400000) (disch := omega) only [n32_lit, n32_add, n32_mul, n32_lt, n32_le, n32_eq, n32_nat, n32_inb, gd_dec, gdE, ↓nmE, ↓jnE, ↓bsE, Nat.reduceAdd, Nat.reduceMul, Nat.reduceSub, Nat.reduceLT, Nat.reduceLeDiff, Nat.reduceEqDiff, ↓reduceIte, decide_true, decide_false, and_true, true_and, and_false, false_and, or_false, false_or, or_true, true_or, not_true_eq_false, not_false_eq_true, eq_self, Nat.zero_add, Nat.add_zero, Nat.mul_zero, Nat.mul_one, Nat.zero_le, Nat.not_lt_zero, bind_sm, bind_sm2, up_at, up_ms, up_mi, upA_at, upA_ms, c10, c16, x2]
      · simp (maxSteps := 400000) (disch := omega) only [n32_lit, n32_add, n32_mul, n32_lt, n32_le, n32_eq, n32_nat, n32_inb, gd_dec, gdE, ↓nmE, ↓jnE, ↓bsE, Nat.reduceAdd, Nat.reduceMul, Nat.reduceSub, Nat.reduceLT, Nat.reduceLeDiff, Nat.reduceEqDiff, ↓reduceIte, decide_true, decide_false, and_true, true_and, and_false, false_and, or_false, false_or, or_true, true_or, not_true_eq_false, not_false_eq_true, eq_self, Nat.zero_add, Nat.add_zero, Nat.mul_zero, Nat.mul_one, Nat.zero_le, Nat.not_lt_zero, bind_sm, bind_sm2, up_at, up_ms, up_mi, upA_at, upA_ms, a1, x1, r_unlikeF x3, r_numberF x3, r_mustEndF x3, x3.ne]
  · obtain ⟨m3, d1, d2, d3⟩ := c_fail ht 3
    refine StO.bad (m2' := m2) ?_ ?_ a2 d2 d3 b1
    · simp (maxSteps := 400000) (disch := omega) only [n32_lit, n32_add, n32_mul, n32_lt, n32_le, n32_eq, n32_nat, n32_inb, gd_dec, gdE, ↓nmE, ↓jnE, ↓bsE, Nat.reduceAdd, Nat.reduceMul, Nat.reduceSub, Nat.reduceLT, Nat.reduceLeDiff, Nat.reduceEqDiff, ↓reduceIte, decide_true, decide_false, and_true, true_and, and_false, false_and, or_false, false_or, or_true, true_or, not_true_eq_false, not_false_eq_true, eq_self, Nat.zero_add, Nat.add_zero, Nat.mul_zero, Nat.mul_one, Nat.zero_le, Nat.not_lt_zero, bind_sm, bind_sm2, up_at, up_ms, up_mi, upA_at, upA_ms, c10, show ¬ v 2 < 16 by omega, d1, dec01]
    · simp (maxSteps := 400000) (disch := omega) only [n32_lit, n32_add, n32_mul, n32_lt, n32_le, n32_eq, n32_nat, n32_inb, gd_dec, gdE, ↓nmE, ↓jnE, ↓bsE, Nat.reduceAdd, Nat.reduceMul, Nat.reduceSub, Nat.reduceLT, Nat.reduceLeDiff, Nat.reduceEqDiff, ↓reduceIte, decide_true, decide_false, and_true, true_and, and_false, false_and, or_false, false_or, or_true, true_or, not_true_eq_false, not_false_eq_true, eq_self, Nat.zero_add, Nat.add_zero, Nat.mul_zero, Nat.mul_one, Nat.zero_le, Nat.not_lt_zero, bind_sm, bind_sm2, up_at, up_ms, up_mi, upA_at, upA_ms, a1, r_numberF b1, r_unlikeF b1, r_mustEndF b1, b1.ne]
end TK
