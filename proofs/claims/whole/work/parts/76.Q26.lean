/-! evening, whole -/
def kI (u23 : Int32) (u24 : Int32) (w25 : Mem) (w26 : Mem) : Option (Int32 × Mem × Mem) :=
  (nm (α := Mem) (up w26 0 1 0) (fun w27 => (if u23 = 0 then (gd (decide (u23 = 0 ∨ u23 = 1)) (some (u23, w25, w27))) else ((f_X3_finish w25).bind (fun r28 => (gd (decide (u23 = 0 ∨ u23 = 1)) (some (u23, r28, w27))))))))
theorem ri_eq (m2 m4 : Mem) : f_X5_readInto m2 m4 = (f_X3_clear m2).bind (fun r13 => ((f_X5_readLaw r13 (up (up m4 0 6 0) 0 8 0)).bind (fun r14 => (nm (α := Int32) (r14.1) (fun x15 => (f_X5_readInto_L22 kI 100000 x15 0 r14.2.1 r14.2.2)))))) := by
  unfold f_X5_readInto
  rw [nmE (up m4 0 6 0), nmE (up (up m4 0 6 0) 0 8 0)]
  unfold kI
  exact Eq.refl _
theorem i32_bv (x : Int32) : n32 x.toBitVec.toNat = x := by
  apply Int32.toBitVec_inj.mp
  rw [n32_bv, BitVec.ofNat_toNat, BitVec.setWidth_eq]
def PEv (s i : Nat) : Prop := s = 7 ∨ s = 6 ∨ (s = 0 ∧ (i = 7 ∨ i = 10 ∨ (12 ≤ i ∧ i ≤ 20)))
def PEvF (s i : Nat) : Prop := s = 7 ∨ (s = 0 ∧ 12 ≤ i ∧ i ≤ 20)
theorem s_evening {m0 m1 m2 m3 m4 m6 m11 : Mem} (hT : RTape ((up m0 0 0 0) 0 12) ((up m0 0 0 0) 0 13) ((up m0 0 0 0) 12) m4) :
    ∃ (a : Int32) (mD m3' m4' m6' m11' w' : Mem), f_X7_evening m1 m2 m3 m4 m6 m11 = some (a, mD, m3', m4', m6', m11') ∧ f_X8_evening m0 = some (a, w') ∧ RTape (w' 0 12) (w' 0 13) (w' 12) m4' ∧
      ((m3' = m3 ∧ m6' = m6 ∧ m11' = m11 ∧ Fr PEvF (up m0 0 0 0) w') ∨
       (m11' = up (up m11 0 7 2) 0 8 1 ∧ Fr PEv (up m0 0 0 0) w' ∧ w' 0 7 = n32 1 ∧ Fgt m3 m3' ∧ ∃ v', REv (w' 6) (w' 0 7) mD v' ∧ RDr (w' 0 10) (w' 9) (w' 10) m6' v')) := by
  rw [ev_eq]
  generalize hw : up m0 0 0 0 = w at *
  obtain ⟨g1, n, hn, g2, g3, g4⟩ := hT
  -- the tape
  have tpx : ∃ tp : Nat → Nat, tp 1000 = (m4 0 2).toBitVec.toNat ∧ ∀ i, i < n → tp i < 256 ∧ w 12 i = n32 (tp i) ∧ m4 1 i = sb (tp i) := by
    refine ⟨fun i => if i = 1000 then (m4 0 2).toBitVec.toNat else (w 12 i).toNatClampNeg, by show (if (1000 : Nat) = 1000 then _ else _) = _; rw [if_pos rfl], fun i hi => ?_⟩
    obtain ⟨b, b1, b2, b3⟩ := g4 i hi
    have : (if i = 1000 then (m4 0 2).toBitVec.toNat else (w 12 i).toNatClampNeg) = b := by rw [if_neg (by omega), b2, n32_nat (by omega)]
    show (if i = 1000 then (m4 0 2).toBitVec.toNat else (w 12 i).toNatClampNeg) < 256 ∧ w 12 i = n32 (if i = 1000 then (m4 0 2).toBitVec.toNat else (w 12 i).toNatClampNeg) ∧ m4 1 i = sb (if i = 1000 then (m4 0 2).toBitVec.toNat else (w 12 i).toNatClampNeg)
    rw [this]; exact ⟨b1, b2, b3⟩
  obtain ⟨tp, tp0, tp1⟩ := tpx
  have P7 : TP7 n tp (up (up m4 0 6 (n32 0)) 0 8 (n32 0)) := by
    refine ⟨⟨hn, ?_⟩, ?_, fun i hi => ?_⟩
    · simp (disch := omega) only [up_at, up_ms, up_mi, upA_at, upA_ms]; rw [tp0, i32_bv]
    · simp (disch := omega) only [up_at, up_ms, up_mi, upA_at, upA_ms]; exact g3
    · simp (disch := omega) only [up_at, up_ms, up_mi, upA_at, upA_ms]; exact ⟨(tp1 i hi).1, (tp1 i hi).2.2⟩
  have s7 : S7 n tp 0 (up (up m4 0 6 (n32 0)) 0 8 (n32 0)) := ⟨P7, by simp (disch := omega) only [up_at, up_ms, up_mi, upA_at, upA_ms], by omega⟩
  -- the reference begins
  have P8 : TP8 n tp (up (up (up (up w 0 14 (n32 n)) 0 12 (n32 0)) 0 15 (n32 0)) 0 19 (n32 0)) := by
    refine ⟨hn, ?_, fun i hi => ?_⟩
    · simp (disch := omega) only [up_at, up_ms, up_mi, upA_at, upA_ms]
    · simp (disch := omega) only [up_at, up_ms, up_mi, upA_at, upA_ms]; exact ⟨(tp1 i hi).1, (tp1 i hi).2.1⟩
  obtain ⟨w2, x1, x2, x3⟩ := t_token8 P8 (e := 0) (by omega) (by simp (disch := omega) only [up_at, up_ms, up_mi, upA_at, upA_ms])
  have b8 : f_X8_begin w = some w2 := by
    unfold f_X8_begin
    simp (maxSteps := 400000) (disch := omega) only [n32_lit, n32_add, n32_mul, n32_lt, n32_le, n32_eq, n32_nat, n32_inb, gd_dec, gdE, ↓nmE, ↓jnE, ↓bsE, Nat.reduceAdd, Nat.reduceMul, Nat.reduceSub, Nat.reduceLT, Nat.reduceLeDiff, Nat.reduceEqDiff, ↓reduceIte, decide_true, decide_false, and_true, true_and, and_false, false_and, or_false, false_or, or_true, true_or, not_true_eq_false, not_false_eq_true, eq_self, Nat.zero_add, Nat.add_zero, Nat.mul_zero, Nat.mul_one, Nat.zero_le, Nat.not_lt_zero, bind_sm, bind_sm2, up_at, up_ms, up_mi, upA_at, upA_ms, g2, x1]
  obtain ⟨w3, y1, y2⟩ := t_fresh1 w2
  obtain ⟨w4, z1, z2⟩ := t_fresh2 w3
  have w42 : ∀ s j, s ≠ 7 → w4 s j = w2 s j := fun s j h => by rw [z2, if_neg (by omega), y2, if_neg (by omega)]
  have F4 : Fr PEvF w w4 := by
    intro s i hn
    unfold PEvF at hn
    rw [w42 s i (by omega), x2 s i (by unfold PT8; omega)]
    rw [up_ap, if_neg (by omega), up_ap, if_neg (by omega), up_ap, if_neg (by omega), up_ap, if_neg (by omega)]
  have w012 : w4 0 12 = n32 0 := by
    rw [w42 0 12 (by omega), x2 0 12 (by unfold PT8; omega)]
    simp (disch := omega) only [up_at, up_ms, up_mi, upA_at, upA_ms]
  have s8 : S8 n tp 0 w4 := by
    obtain ⟨t1, t2, t3, t4⟩ := x3
    refine ⟨⟨hn, ?_, fun i hi => ?_⟩, ⟨?_, ?_, ?_, ?_⟩, by omega, ?_⟩
    · rw [w42 0 14 (by omega), x2 0 14 (by unfold PT8; omega)]; exact P8.2.1
    · rw [w42 12 i (by omega), x2 12 i (by unfold PT8; omega)]; exact P8.2.2 i hi
    · rw [w42 0 16 (by omega)]; exact t1
    · rw [w42 0 17 (by omega)]; exact t2
    · rw [w42 0 15 (by omega)]; exact t3
    · rw [w42 0 18 (by omega)]; exact t4
    · rw [w42 0 19 (by omega), x2 0 19 (by unfold PT8; omega)]
      simp (disch := omega) only [up_at, up_ms, up_mi, upA_at, upA_ms]
  have h47 : Sh (w4 7) vz := by
    intro j hj
    rw [z2, y2]
    unfold vz fz
    by_cases q : 8 ≤ j ∧ j < 80 ∧ (j - 8) % 9 = 0
    · rw [if_pos ⟨rfl, q⟩, if_neg (by omega)]
    · rw [if_neg (fun c => q c.2), if_pos ⟨rfl, hj⟩]
      by_cases q2 : 8 ≤ j ∧ j < 72
      · rw [if_pos q2, if_pos (by omega)]
      · rw [if_neg q2, if_neg (by omega)]
  obtain ⟨mc, c1, c2⟩ := t_clear m2
  obtain ⟨r, m2', m4', w5, l1, l2, l3, l4, l5⟩ := st_law h47 c2 s8 s7
  have ref0 : (f_X8_begin w).bind (fun r12 => (f_X8_evening_L11 (fun (u18 : Int32) (w19 : Mem) => (f_X8_evening_L50 (fun (u23 : Int32) (w24 : Mem) => lawP w24 (PH KGe 1 100000))  100000 0 w19))  100000 0 r12)) = PH KGe 1 100000 w5 := by
    rw [b8, ← l2 (PH KGe 1 100000)]
    simp (maxSteps := 400000) (disch := omega) only [n32_lit, n32_add, n32_mul, n32_lt, n32_le, n32_eq, n32_nat, n32_inb, gd_dec, gdE, ↓nmE, ↓jnE, ↓bsE, Nat.reduceAdd, Nat.reduceMul, Nat.reduceSub, Nat.reduceLT, Nat.reduceLeDiff, Nat.reduceEqDiff, ↓reduceIte, decide_true, decide_false, and_true, true_and, and_false, false_and, or_false, false_or, or_true, true_or, not_true_eq_false, not_false_eq_true, eq_self, Nat.zero_add, Nat.add_zero, Nat.mul_zero, Nat.mul_one, Nat.zero_le, Nat.not_lt_zero, bind_sm, bind_sm2, y1, z1]
  rw [ref0]
  have cls0 : f_X5_readInto m2 m4 = f_X5_readInto_L22 kI 100000 r (n32 0) m2' m4' := by
    rw [ri_eq]
    simp (maxSteps := 400000) (disch := omega) only [n32_lit, n32_add, n32_mul, n32_lt, n32_le, n32_eq, n32_nat, n32_inb, gd_dec, gdE, ↓nmE, ↓jnE, ↓bsE, Nat.reduceAdd, Nat.reduceMul, Nat.reduceSub, Nat.reduceLT, Nat.reduceLeDiff, Nat.reduceEqDiff, ↓reduceIte, decide_true, decide_false, and_true, true_and, and_false, false_and, or_false, false_or, or_true, true_or, not_true_eq_false, not_false_eq_true, eq_self, Nat.zero_add, Nat.add_zero, Nat.mul_zero, Nat.mul_one, Nat.zero_le, Nat.not_lt_zero, bind_sm, bind_sm2, c1, l1]
  have F5 : Fr PEvF w w5 := F4.trans (l3.mono (fun s i q => by unfold PEvF; rcases q with q | q; exact Or.inl q; exact Or.inr ⟨q.1, by omega, q.2.2⟩))
  have m48 : m4' 0 8 = n32 0 := by
    rw [l4 0 8 (by unfold PR7; omega)]
    simp (disch := omega) only [up_at, up_ms, up_mi, upA_at, upA_ms]
  -- both sides where a fault is found
  have fail : ∀ (u' : Int32) (mD mm ww : Mem) (fk fp : Nat), f_X5_readInto m2 m4 = kI (n32 0) u' mD mm → PH KGe 1 100000 w5 = KGe ww → Fr PEvF w ww → ww 0 12 = n32 0 → F7 fk fp mm → F8 n tp fk fp ww →
      ∃ (a : Int32) (mD m3' m4' m6' m11' w' : Mem), f_X7_evening m1 m2 m3 m4 m6 m11 = some (a, mD, m3', m4', m6', m11') ∧ PH KGe 1 100000 w5 = some (a, w') ∧ RTape (w' 0 12) (w' 0 13) (w' 12) m4' ∧
      ((m3' = m3 ∧ m6' = m6 ∧ m11' = m11 ∧ Fr PEvF w w') ∨
       (m11' = up (up m11 0 7 2) 0 8 1 ∧ Fr PEv w w' ∧ w' 0 7 = n32 1 ∧ Fgt m3 m3' ∧ ∃ v', REv (w' 6) (w' 0 7) mD v' ∧ RDr (w' 0 10) (w' 9) (w' 10) m6' v')) := by
    intro u' mD mm ww fk fp q1 q2 q3 q12 q4 q5
    refine ⟨-n32 1000100 - n32 fp, mD, m3, up mm 0 1 (n32 0), m6, m11, up ww 0 13 (n32 fk), ?_, ?_, ?_, Or.inl ⟨rfl, rfl, rfl, ?_⟩⟩
    · unfold f_X7_evening
      rw [q1]
      unfold kI
      simp (maxSteps := 400000) (disch := omega) only [n32_lit, n32_add, n32_mul, n32_lt, n32_le, n32_eq, n32_nat, n32_inb, gd_dec, gdE, ↓nmE, ↓jnE, ↓bsE, Nat.reduceAdd, Nat.reduceMul, Nat.reduceSub, Nat.reduceLT, Nat.reduceLeDiff, Nat.reduceEqDiff, ↓reduceIte, decide_true, decide_false, and_true, true_and, and_false, false_and, or_false, false_or, or_true, true_or, not_true_eq_false, not_false_eq_true, eq_self, Nat.zero_add, Nat.add_zero, Nat.mul_zero, Nat.mul_one, Nat.zero_le, Nat.not_lt_zero, bind_sm, bind_sm2, up_at, up_ms, up_mi, upA_at, upA_ms, dec01, q4.2]
    · rw [q2]
      unfold KGe
      have hfk := q5.2.2.1
      simp (maxSteps := 400000) (disch := omega) only [n32_lit, n32_add, n32_mul, n32_lt, n32_le, n32_eq, n32_nat, n32_inb, gd_dec, gdE, ↓nmE, ↓jnE, ↓bsE, Nat.reduceAdd, Nat.reduceMul, Nat.reduceSub, Nat.reduceLT, Nat.reduceLeDiff, Nat.reduceEqDiff, ↓reduceIte, decide_true, decide_false, and_true, true_and, and_false, false_and, or_false, false_or, or_true, true_or, not_true_eq_false, not_false_eq_true, eq_self, Nat.zero_add, Nat.add_zero, Nat.mul_zero, Nat.mul_one, Nat.zero_le, Nat.not_lt_zero, bind_sm, bind_sm2, up_at, up_ms, up_mi, upA_at, upA_ms, show ¬ fk ≤ 0 by omega, q5.2.2.2.1, q5.2.2.2.2]
    · refine ⟨?_, 0, by omega, ?_, ?_, fun i hi => by omega⟩
      · simp (disch := omega) only [up_at, up_ms, up_mi, upA_at, upA_ms]; exact q4.1
      · simp (disch := omega) only [up_at, up_ms, up_mi, upA_at, upA_ms]; exact q12
      · simp (disch := omega) only [up_at, up_ms, up_mi, upA_at, upA_ms]
    · exact q3.up 0 13 _ (Or.inr ⟨rfl, by omega, by omega⟩)
  rcases l5 with ⟨rfl, e', v', a1, a2, a3⟩ | ⟨rfl, fk, fp, a1, a2⟩
  · have h500 := a2.e_le
    obtain ⟨u', mD, mm, ww, i1, i2, i3, i4⟩ := ev_loop KGe kI (n - e') e' 100000 100000 0 0 v' w5 m4' m2' (Nat.le_refl _) (by omega) (by omega) (by omega) (by omega) (by omega) a2 a1 a3 m48
    rw [if_pos rfl] at i3
    have Fw : Fr PEvF w ww := F5.trans (i1.mono (fun s i q => by unfold PEvF; rcases q with q | q; exact Or.inl q; exact Or.inr ⟨q.1, by omega, q.2.2⟩))
    have w12 : ww 0 12 = n32 0 := by
      rw [i1 0 12 (by unfold PE8; omega), l3 0 12 (by unfold PE8; omega)]; exact w012
    rcases i4 with ⟨j1, j2, j3, v'', j4⟩ | ⟨j1, fk, fp, j2, j3⟩
    · have vM := j4.2.2.2.1
      have fi := vm_fi vM
      have C80 : C8 (up (up ww 0 7 (n32 1)) 0 10 (n32 0)) (fun a b => v'' (8 + 8 * a + b)) := by
        intro a b ha hb
        simp (disch := omega) only [up_at, up_ms, up_mi, upA_at, upA_ms]
        exact j4.1 _ (by omega)
      have C70 : C7 mD (fun a b => v'' (8 + 8 * a + b)) := by
        intro a b ha hb
        have := j4.2.1.2.1 (a * 8 + b) (by omega)
        rw [show 8 + (a * 8 + b) = 8 + 8 * a + b by omega] at this
        exact this
      obtain ⟨w6, k1, k2, k3⟩ := t_layFar fi _ C80
      obtain ⟨mF, n1, n2, n3⟩ := t_finish fi _ C70
      have j4' : DR v'' (up (up ww 0 7 (n32 1)) 0 10 (n32 0)) mD := by
        refine ⟨?_, j4.2⟩
        intro i hi
        simp (disch := omega) only [up_at, up_ms, up_mi, upA_at, upA_ms]
        exact j4.1 i hi
      obtain ⟨vF, o1, o2, o3⟩ := dr_done j4' k2 n2 k3 n3
      obtain ⟨w7, p1, p2⟩ := t_copyEv w6
      obtain ⟨m3', m6', q1, q2, q3⟩ := t_beginAnew (m3 := m3) (m6 := m6)
      have e67 : ∀ i, i < 109 → w7 6 i = n32 (vF i) := fun i hi => by rw [p2, if_pos ⟨rfl, hi⟩]; exact o1 i hi
      have w7o : ∀ s j, s ≠ 6 → s ≠ 7 → w7 s j = (up (up ww 0 7 (n32 1)) 0 10 (n32 0)) s j := fun s j h h' => by
        rw [p2, if_neg (by omega), k2 s j (by unfold PF8; omega)]
      have t7 : w7 0 7 = n32 1 := by rw [w7o 0 7 (by omega) (by omega)]; simp (disch := omega) only [up_at, up_ms, up_mi, upA_at, upA_ms]
      have t10 : w7 0 10 = n32 0 := by rw [w7o 0 10 (by omega) (by omega)]; simp (disch := omega) only [up_at, up_ms, up_mi, upA_at, upA_ms]
      have c6 : (up mF 0 0 (n32 1)) 0 6 = n32 (vF 4) := o3.1.2.2.2.1
      refine ⟨n32 (vF 4), up mF 0 0 (n32 1), m3', up mm 0 1 (n32 0), m6', up (up m11 0 7 2) 0 8 1, w7, ?_, ?_, ?_, Or.inr ⟨rfl, ?_, t7, q2, vF, ?_, ?_⟩⟩
      · unfold f_X7_evening
        rw [cls0, j1]
        unfold kI
        have c6' : mF 0 6 = n32 (vF 4) := by rw [← c6, up_mi (by omega)]
        simp (maxSteps := 400000) (disch := omega) only [n32_lit, n32_add, n32_mul, n32_lt, n32_le, n32_eq, n32_nat, n32_inb, gd_dec, gdE, ↓nmE, ↓jnE, ↓bsE, Nat.reduceAdd, Nat.reduceMul, Nat.reduceSub, Nat.reduceLT, Nat.reduceLeDiff, Nat.reduceEqDiff, ↓reduceIte, decide_true, decide_false, and_true, true_and, and_false, false_and, or_false, false_or, or_true, true_or, not_true_eq_false, not_false_eq_true, eq_self, Nat.zero_add, Nat.add_zero, Nat.mul_zero, Nat.mul_one, Nat.zero_le, Nat.not_lt_zero, bind_sm, bind_sm2, up_at, up_ms, up_mi, upA_at, upA_ms, dec11, n1, q1, c6']
      · rw [i3]
        unfold KGe
        simp (maxSteps := 400000) (disch := omega) only [n32_lit, n32_add, n32_mul, n32_lt, n32_le, n32_eq, n32_nat, n32_inb, gd_dec, gdE, ↓nmE, ↓jnE, ↓bsE, Nat.reduceAdd, Nat.reduceMul, Nat.reduceSub, Nat.reduceLT, Nat.reduceLeDiff, Nat.reduceEqDiff, ↓reduceIte, decide_true, decide_false, and_true, true_and, and_false, false_and, or_false, false_or, or_true, true_or, not_true_eq_false, not_false_eq_true, eq_self, Nat.zero_add, Nat.add_zero, Nat.mul_zero, Nat.mul_one, Nat.zero_le, Nat.not_lt_zero, bind_sm, bind_sm2, up_at, up_ms, up_mi, upA_at, upA_ms, j2, k1, p1, e67 4 (by decide)]
      · refine ⟨?_, 0, by omega, ?_, ?_, fun i hi => by omega⟩
        · rw [w7o 0 13 (by omega) (by omega)]
          simp (disch := omega) only [up_at, up_ms, up_mi, upA_at, upA_ms]
          rw [i1 0 13 (by unfold PE8; omega), l3 0 13 (by unfold PE8; omega), w42 0 13 (by omega), x2 0 13 (by unfold PT8; omega), j3.1.2, tp0, i32_bv]
          simp (disch := omega) only [up_at, up_ms, up_mi, upA_at, upA_ms]
          exact g1
        · rw [w7o 0 12 (by omega) (by omega)]
          simp (disch := omega) only [up_at, up_ms, up_mi, upA_at, upA_ms]
          exact w12
        · simp (disch := omega) only [up_at, up_ms, up_mi, upA_at, upA_ms]
      · intro s i hn
        unfold PEv at hn
        rw [w7o s i (by omega) (by omega), up_ap, if_neg (by omega), up_ap, if_neg (by omega)]
        exact Fw s i (by unfold PEvF; omega)
      · refine ⟨e67, o2, o3, ?_, ?_⟩
        · rw [t7, up_at]
        · exact Or.inr t7
      · rw [t10]; exact rdr_0 q3
    · exact fail u' mD mm ww fk fp (cls0.trans j1) i3 Fw w12 j2 j3
  · have w12 : w5 0 12 = n32 0 := by rw [l3 0 12 (by unfold PE8; omega)]; exact w012
    refine fail (n32 0) m2' m4' w5 fk fp ?_ ?_ F5 w12 a1 a2
    · rw [cls0]
      refine Eq.trans (f_X5_readInto_L22.eq_2 _ _ _ _ _ 99999) ?_
      simp (maxSteps := 400000) (disch := omega) only [n32_lit, n32_add, n32_mul, n32_lt, n32_le, n32_eq, n32_nat, n32_inb, gd_dec, gdE, ↓nmE, ↓jnE, ↓bsE, Nat.reduceAdd, Nat.reduceMul, Nat.reduceSub, Nat.reduceLT, Nat.reduceLeDiff, Nat.reduceEqDiff, ↓reduceIte, decide_true, decide_false, and_true, true_and, and_false, false_and, or_false, false_or, or_true, true_or, not_true_eq_false, not_false_eq_true, eq_self, Nat.zero_add, Nat.add_zero, Nat.mul_zero, Nat.mul_one, Nat.zero_le, Nat.not_lt_zero, bind_sm, bind_sm2]
    · exact ph_F a2 4 1 99999 (by omega) (by omega)
