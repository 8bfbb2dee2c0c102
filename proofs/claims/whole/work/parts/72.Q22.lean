/-! the law, and an evening's beginning -/
def vz (i : Nat) : Nat := if 8 ≤ i ∧ i < 72 ∧ (i - 8) % 9 ≠ 0 then 10000 else 0
def fz (j : Nat) : Nat := if 8 ≤ j ∧ j < 72 then 10000 else 0
theorem t_fresh1 (w : Mem) : ∃ w', (∀ K, f_X8_evening_L11 K 100000 (n32 0) w = K (n32 109) w') ∧ ∀ s j, w' s j = if s = 7 ∧ j < 109 then n32 (fz j) else w s j := by
  obtain ⟨s, i1, i2⟩ := loop_k (S := Mem) (fun K t u s => f_X8_evening_L11 K t u s) 109 (fun i r => ∀ s j, r s j = if s = 7 ∧ j < i then n32 (fz j) else w s j) (fun K t s _ => by
      refine Eq.trans (f_X8_evening_L11.eq_2 _ _ _ _) ?_
      simp (disch := omega) only [n32_lit, n32_add, n32_mul, n32_lt, n32_le, n32_eq, n32_nat, n32_inb, gd_dec, gd_one, nm_eq, jn_eq, Option.bind_some, Nat.reduceAdd, Nat.reduceMul, Nat.reduceSub, Nat.reduceLT, Nat.reduceLeDiff, Nat.reduceEqDiff, ↓reduceIte, decide_true, decide_false, and_true, true_and, and_false, false_and, or_false, false_or, or_true, true_or, not_true_eq_false, not_false_eq_true, eq_self, Nat.zero_add, Nat.add_zero, Nat.mul_zero, Nat.mul_one, Nat.zero_le, Nat.not_lt_zero, bind_sm, bind_sm2, Nat.le_refl]) (fun i s hi hI => ⟨up s 7 i (n32 (fz i)), fun s' j => by
        rw [up_ap, hI]
        by_cases z1 : s' = 7
        · by_cases z2 : j = i
          · rw [if_pos ⟨z1, z2⟩, if_pos (by omega), z2]
          · rw [if_neg (by omega)]
            by_cases z3 : j < i
            · rw [if_pos ⟨z1, z3⟩, if_pos (by omega)]
            · rw [if_neg (by omega), if_neg (by omega)]
        · rw [if_neg (by omega), if_neg (by omega), if_neg (by omega)], fun K t => by
      refine Eq.trans (f_X8_evening_L11.eq_2 _ _ _ _) ?_
      by_cases q1 : i < 8
      · have c : fz i = 0 := by unfold fz; rw [if_neg (by omega)]
        rw [c]
        simp (disch := omega) only [n32_lit, n32_add, n32_mul, n32_lt, n32_le, n32_eq, n32_nat, n32_inb, gd_dec, gd_one, nm_eq, jn_eq, Option.bind_some, Nat.reduceAdd, Nat.reduceMul, Nat.reduceSub, Nat.reduceLT, Nat.reduceLeDiff, Nat.reduceEqDiff, ↓reduceIte, decide_true, decide_false, and_true, true_and, and_false, false_and, or_false, false_or, or_true, true_or, not_true_eq_false, not_false_eq_true, eq_self, Nat.zero_add, Nat.add_zero, Nat.mul_zero, Nat.mul_one, Nat.zero_le, Nat.not_lt_zero, bind_sm, bind_sm2, show ¬ 109 ≤ i by omega, q1, hi]
      · by_cases q2 : 72 ≤ i
        · have c : fz i = 0 := by unfold fz; rw [if_neg (by omega)]
          rw [c]
          simp (disch := omega) only [n32_lit, n32_add, n32_mul, n32_lt, n32_le, n32_eq, n32_nat, n32_inb, gd_dec, gd_one, nm_eq, jn_eq, Option.bind_some, Nat.reduceAdd, Nat.reduceMul, Nat.reduceSub, Nat.reduceLT, Nat.reduceLeDiff, Nat.reduceEqDiff, ↓reduceIte, decide_true, decide_false, and_true, true_and, and_false, false_and, or_false, false_or, or_true, true_or, not_true_eq_false, not_false_eq_true, eq_self, Nat.zero_add, Nat.add_zero, Nat.mul_zero, Nat.mul_one, Nat.zero_le, Nat.not_lt_zero, bind_sm, bind_sm2, show ¬ 109 ≤ i by omega, q1, q2, hi]
        · have c : fz i = 10000 := by unfold fz; rw [if_pos (by omega)]
          rw [c]
          simp (disch := omega) only [n32_lit, n32_add, n32_mul, n32_lt, n32_le, n32_eq, n32_nat, n32_inb, gd_dec, gd_one, nm_eq, jn_eq, Option.bind_some, Nat.reduceAdd, Nat.reduceMul, Nat.reduceSub, Nat.reduceLT, Nat.reduceLeDiff, Nat.reduceEqDiff, ↓reduceIte, decide_true, decide_false, and_true, true_and, and_false, false_and, or_false, false_or, or_true, true_or, not_true_eq_false, not_false_eq_true, eq_self, Nat.zero_add, Nat.add_zero, Nat.mul_zero, Nat.mul_one, Nat.zero_le, Nat.not_lt_zero, bind_sm, bind_sm2, show ¬ 109 ≤ i by omega, q1, q2, hi]⟩) 109 0 w 100000 (by omega) (by omega) (fun s j => by rw [if_neg (by omega)])
  exact ⟨s, i2, i1⟩
theorem t_fresh2 (w : Mem) : ∃ w', (∀ K, f_X8_evening_L50 K 100000 (n32 0) w = K (n32 8) w') ∧ ∀ s j, w' s j = if s = 7 ∧ 8 ≤ j ∧ j < 80 ∧ (j - 8) % 9 = 0 then n32 0 else w s j := by
  obtain ⟨s, i1, i2⟩ := loop_k (S := Mem) (fun K t u s => f_X8_evening_L50 K t u s) 8 (fun i r => ∀ s j, r s j = if s = 7 ∧ 8 ≤ j ∧ j < 8 + 9 * i ∧ (j - 8) % 9 = 0 then n32 0 else w s j) (fun K t s _ => by
      refine Eq.trans (f_X8_evening_L50.eq_2 _ _ _ _) ?_
      simp (disch := omega) only [n32_lit, n32_add, n32_mul, n32_lt, n32_le, n32_eq, n32_nat, n32_inb, gd_dec, gd_one, nm_eq, jn_eq, Option.bind_some, Nat.reduceAdd, Nat.reduceMul, Nat.reduceSub, Nat.reduceLT, Nat.reduceLeDiff, Nat.reduceEqDiff, ↓reduceIte, decide_true, decide_false, and_true, true_and, and_false, false_and, or_false, false_or, or_true, true_or, not_true_eq_false, not_false_eq_true, eq_self, Nat.zero_add, Nat.add_zero, Nat.mul_zero, Nat.mul_one, Nat.zero_le, Nat.not_lt_zero, bind_sm, bind_sm2, Nat.le_refl]) (fun i s hi hI => ⟨up s 7 (8 + 9 * i) (n32 0), fun s' j => by
        rw [up_ap, hI]
        by_cases z1 : s' = 7
        · by_cases z2 : j = 8 + 9 * i
          · rw [if_pos ⟨z1, z2⟩, if_pos (by omega)]
          · rw [if_neg (by omega)]
            by_cases z3 : 8 ≤ j ∧ j < 8 + 9 * i ∧ (j - 8) % 9 = 0
            · rw [if_pos ⟨z1, z3⟩, if_pos (by omega)]
            · rw [if_neg (by omega), if_neg (by omega)]
        · rw [if_neg (by omega), if_neg (by omega), if_neg (by omega)], fun K t => by
      refine Eq.trans (f_X8_evening_L50.eq_2 _ _ _ _) ?_
      simp (disch := omega) only [n32_lit, n32_add, n32_mul, n32_lt, n32_le, n32_eq, n32_nat, n32_inb, gd_dec, gd_one, nm_eq, jn_eq, Option.bind_some, Nat.reduceAdd, Nat.reduceMul, Nat.reduceSub, Nat.reduceLT, Nat.reduceLeDiff, Nat.reduceEqDiff, ↓reduceIte, decide_true, decide_false, and_true, true_and, and_false, false_and, or_false, false_or, or_true, true_or, not_true_eq_false, not_false_eq_true, eq_self, Nat.zero_add, Nat.add_zero, Nat.mul_zero, Nat.mul_one, Nat.zero_le, Nat.not_lt_zero, bind_sm, bind_sm2, show ¬ 8 ≤ i by omega, show 8 + 9 * i < 109 by omega]⟩) 8 0 w 100000 (by omega) (by omega) (fun s j => by rw [if_neg (by omega)])
  exact ⟨s, i2, i1⟩
/-- what the class clears -/
def CZ (m2 : Mem) : Prop := (∀ j, 3 ≤ j → j ≤ 9 → m2 0 j = n32 0) ∧ m2 0 0 = n32 0 ∧ (∀ i, i < 64 → m2 11 i = n32 (if i % 9 = 0 then 0 else 1000000)) ∧ ∀ i, i < 7 → m2 15 i = n32 0
theorem t_clear (m2 : Mem) : ∃ m, f_X3_clear m2 = some m ∧ CZ m := by
  unfold f_X3_clear
  simp only [nm_eq]
  generalize hm : upA (up (up (up (up (up (up (up (up m2 0 0 0) 0 3 0) 0 4 0) 0 5 0) 0 6 0) 0 7 0) 0 8 0) 0 9 0) 11 (fillf 64 1000000 ((up (up (up (up (up (up (up (up m2 0 0 0) 0 3 0) 0 4 0) 0 5 0) 0 6 0) 0 7 0) 0 8 0) 0 9 0) 11)) = u
  have u0 : ∀ j, 3 ≤ j → j ≤ 9 → u 0 j = n32 0 := by
    intro j h1 h2
    subst hm
    rcases (show j = 3 ∨ j = 4 ∨ j = 5 ∨ j = 6 ∨ j = 7 ∨ j = 8 ∨ j = 9 by omega) with rfl | rfl | rfl | rfl | rfl | rfl | rfl <;> simp (disch := omega) only [up_at, up_ms, up_mi, upA_at, upA_ms] <;> rfl
  have u00 : u 0 0 = n32 0 := by subst hm; simp (disch := omega) only [up_at, up_ms, up_mi, upA_at, upA_ms]; rfl
  have u11 : ∀ i, i < 64 → u 11 i = n32 1000000 := by
    intro i hi
    subst hm
    simp (disch := omega) only [up_at, up_ms, up_mi, upA_at, upA_ms]
    unfold fillf
    rw [if_pos hi]; rfl
  clear hm
  obtain ⟨s, i1, i2⟩ := loop_k (S := Mem) (fun K t u s => f_X3_clear_L51 K t u s) 8 (fun i r => ∀ s j, r s j = if s = 11 ∧ j < 9 * i ∧ j % 9 = 0 then n32 0 else u s j) (fun K t s _ => by
      refine Eq.trans (f_X3_clear_L51.eq_2 _ _ _ _) ?_
      simp (disch := omega) only [n32_lit, n32_add, n32_mul, n32_lt, n32_le, n32_eq, n32_nat, n32_inb, gd_dec, gd_one, nm_eq, jn_eq, Option.bind_some, Nat.reduceAdd, Nat.reduceMul, Nat.reduceSub, Nat.reduceLT, Nat.reduceLeDiff, Nat.reduceEqDiff, ↓reduceIte, decide_true, decide_false, and_true, true_and, and_false, false_and, or_false, false_or, or_true, true_or, not_true_eq_false, not_false_eq_true, eq_self, Nat.zero_add, Nat.add_zero, Nat.mul_zero, Nat.mul_one, Nat.zero_le, Nat.not_lt_zero, bind_sm, bind_sm2, Nat.le_refl]) (fun i s hi hI => ⟨up s 11 (i * 8 + i) (n32 0), fun s' j => by
        rw [up_ap, hI]
        by_cases z1 : s' = 11
        · by_cases z2 : j = i * 8 + i
          · rw [if_pos ⟨z1, z2⟩, if_pos (by omega)]
          · rw [if_neg (by omega)]
            by_cases z3 : j < 9 * i ∧ j % 9 = 0
            · rw [if_pos ⟨z1, z3⟩, if_pos (by omega)]
            · rw [if_neg (by omega), if_neg (by omega)]
        · rw [if_neg (by omega), if_neg (by omega), if_neg (by omega)], fun K t => by
      refine Eq.trans (f_X3_clear_L51.eq_2 _ _ _ _) ?_
      simp (disch := omega) only [n32_lit, n32_add, n32_mul, n32_lt, n32_le, n32_eq, n32_nat, n32_inb, gd_dec, gd_one, nm_eq, jn_eq, Option.bind_some, Nat.reduceAdd, Nat.reduceMul, Nat.reduceSub, Nat.reduceLT, Nat.reduceLeDiff, Nat.reduceEqDiff, ↓reduceIte, decide_true, decide_false, and_true, true_and, and_false, false_and, or_false, false_or, or_true, true_or, not_true_eq_false, not_false_eq_true, eq_self, Nat.zero_add, Nat.add_zero, Nat.mul_zero, Nat.mul_one, Nat.zero_le, Nat.not_lt_zero, bind_sm, bind_sm2, show ¬ 8 ≤ i by omega, show i * 8 + i < 64 by omega]⟩) 8 0 u 100000 (by omega) (by omega) (fun s j => by rw [if_neg (by omega)])
  rw [show (0 : Int32) = n32 0 from rfl]
  rw [i2]
  refine ⟨_, rfl, ?_, ?_, ?_, ?_⟩
  · intro j h1 h2
    rw [upA_ms (by omega), i1, if_neg (by omega)]; exact u0 j h1 h2
  · rw [upA_ms (by omega), i1, if_neg (by omega)]; exact u00
  · intro i hi
    rw [upA_ms (by omega), i1]
    by_cases q : i % 9 = 0
    · rw [if_pos (by omega), if_pos q]
    · rw [if_neg (by omega), if_neg q]; exact u11 i hi
  · intro i hi
    rw [upA_at]
    unfold fillf
    rw [if_pos hi]
theorem vz_far {a b : Nat} (ha : a < 8) (hb : b < 8) : vz (8 + 8 * a + b) = if a = b then 0 else 10000 := by
  unfold vz
  by_cases q : a = b
  · rw [if_pos q, if_neg (by omega)]
  · rw [if_neg q, if_pos (by omega)]
theorem vz_out {i : Nat} (h : i < 8 ∨ 72 ≤ i) : vz i = 0 := by unfold vz; rw [if_neg (by omega)]
theorem dr_law {w m2 : Mem} (hw : Sh (w 7) vz) (hm : CZ m2) {l r : Nat} (hl : l ≤ 50) (hr : r ≤ 20) : DR (vset (vset vz 0 l) 1 r) (up (up w 7 0 (n32 l)) 7 1 (n32 r)) (up (up m2 0 1 (n32 l)) 0 2 (n32 r)) := by
  obtain ⟨z1, z2, z3, z4⟩ := hm
  have ne : ∀ j, j ≠ 0 → j ≠ 1 → (vset (vset vz 0 l) 1 r) j = vz j := fun j h h' => by rw [vset_ne h', vset_ne h]
  have mm : ∀ s j, ¬ (s = 0 ∧ (j = 1 ∨ j = 2)) → (up (up m2 0 1 (n32 l)) 0 2 (n32 r)) s j = m2 s j := fun s j h => by rw [up_ap, if_neg (by omega), up_ap, if_neg (by omega)]
  have e4 : (vset (vset vz 0 l) 1 r) 4 = 0 := by rw [ne 4 (by omega) (by omega)]; exact vz_out (by omega)
  have e5 : (vset (vset vz 0 l) 1 r) 5 = 0 := by rw [ne 5 (by omega) (by omega)]; exact vz_out (by omega)
  have e6 : (vset (vset vz 0 l) 1 r) 6 = 0 := by rw [ne 6 (by omega) (by omega)]; exact vz_out (by omega)
  have e7 : (vset (vset vz 0 l) 1 r) 7 = 0 := by rw [ne 7 (by omega) (by omega)]; exact vz_out (by omega)
  have e2 : (vset (vset vz 0 l) 1 r) 2 = 0 := by rw [ne 2 (by omega) (by omega)]; exact vz_out (by omega)
  have e3 : (vset (vset vz 0 l) 1 r) 3 = 0 := by rw [ne 3 (by omega) (by omega)]; exact vz_out (by omega)
  have e0 : (vset (vset vz 0 l) 1 r) 0 = l := by rw [vset_ne (by omega), vset_at]
  have e1 : (vset (vset vz 0 l) 1 r) 1 = r := vset_at _ _ _
  refine ⟨sh_up (sh_up hw 0 l) 1 r, ⟨⟨?_, ?_, ?_, ?_, ?_, ?_, ⟨0, by omega, ?_, ?_⟩, ?_, ?_⟩, ?_, ?_, ?_⟩, ⟨?_, ?_, ?_, ?_, ?_, ?_, ?_, ?_⟩, ?_, ⟨?_, ?_⟩, ?_, ?_⟩
  · rw [e0, up_mi (by omega), up_at]
  · rw [e1, up_at]
  · rw [mm _ _ (by omega), z1 _ (by omega) (by omega), e6]
  · rw [mm _ _ (by omega), z1 _ (by omega) (by omega), e4]
  · rw [mm _ _ (by omega), z1 _ (by omega) (by omega), e5]
  · rw [mm _ _ (by omega), z1 _ (by omega) (by omega), e7]
  · rw [mm _ _ (by omega), z1 _ (by omega) (by omega)]
  · intro p hp
    rw [Nat.zero_testBit, e4]
    simp
  · intro p hp; rw [e4] at hp; omega
  · intro c hc; rw [e5] at hc; omega
  · intro i hi
    rw [mm _ _ (by omega), z3 i hi, ne _ (by omega) (by omega)]
    have := vz_far (a := i / 8) (b := i % 8) (by omega) (by omega)
    rw [show 8 + 8 * (i / 8) + i % 8 = 8 + i by omega] at this
    rw [this]
    by_cases q : i / 8 = i % 8
    · rw [if_pos (by omega), if_pos q]; rfl
    · rw [if_neg (by omega), if_neg q, farC_big]
  · rw [mm _ _ (by omega), z1 _ (by omega) (by omega), e2]
  · rw [mm _ _ (by omega), z1 _ (by omega) (by omega), e3]
  · rw [e4]; omega
  · rw [e5]; omega
  · rw [e0]; exact hl
  · rw [e1]; exact hr
  · rw [e6]; omega
  · rw [e7]; omega
  · intro p hp; rw [e4] at hp; omega
  · intro c hc; rw [e5] at hc; omega
  · intro a b ha hb
    rw [ne _ (by omega) (by omega), ne _ (by omega) (by omega), vz_far ha hb, vz_far hb ha]
    by_cases q : a = b
    · rw [if_pos q, if_pos q.symm]; exact ⟨by omega, rfl, fun _ => rfl⟩
    · rw [if_neg q, if_neg (fun z => q z.symm)]; exact ⟨Or.inr rfl, rfl, fun z => absurd z q⟩
  · intro q hq hq'
    rw [ne _ (by omega) (by omega), mm _ _ (by omega), vz_out (by omega)]
    exact ⟨rfl, z4 q hq⟩
  · intro q hq; rw [e4] at hq; omega
  · rw [e2]; omega
  · rw [e3]; omega
/-- the reference reads the law, then goes on -/
def lawP (w24 : Mem) (K : Mem → Option (Int32 × Mem)) : Option (Int32 × Mem) :=
  ((f_X8_name w24).bind (fun r25 => (nm (α := Int32) (if (lg_cmp r25 7102839) = 0 then 1 else 0) (fun a26 => ((f_X8_must w24 a26).bind (fun r28 => ((f_X8_number r28 (0 : Int32) (50 : Int32)).bind (fun r29 => (gd (inb 0 109) (nm (α := Mem) (up r29.2 7 (0 : Int32).toNatClampNeg r29.1) (fun w30 => ((f_X8_number w30 (1 : Int32) (20 : Int32)).bind (fun r31 => (gd (inb 1 109) (nm (α := Mem) (up r31.2 7 (1 : Int32).toNatClampNeg r31.1) (fun w32 => ((f_X8_mustEnd w32).bind K)))))))))))))))))
section TK
variable {n e fk fp : Nat} {tp : Nat → Nat} {m w m2 : Mem} {v : Nat → Nat}
theorem F8.up7 (h : F8 n tp fk fp w) (i : Nat) (x : Int32) : F8 n tp fk fp (up w 7 i x) := by
  obtain ⟨j1, ⟨e, he, t1, t2, t3, t4⟩, j3, j4, j5⟩ := h
  refine ⟨⟨j1.1, ?_, fun i hi => ?_⟩, ⟨e, he, ?_, ?_, ?_, ?_⟩, j3, ?_, ?_⟩
  · simp (disch := omega) only [up_at, up_ms, up_mi, upA_at, upA_ms]; exact j1.2.1
  · simp (disch := omega) only [up_at, up_ms, up_mi, upA_at, upA_ms]; exact j1.2.2 i hi
  · simp (disch := omega) only [up_at, up_ms, up_mi, upA_at, upA_ms]; exact t1
  · simp (disch := omega) only [up_at, up_ms, up_mi, upA_at, upA_ms]; exact t2
  · simp (disch := omega) only [up_at, up_ms, up_mi, upA_at, upA_ms]; exact t3
  · simp (disch := omega) only [up_at, up_ms, up_mi, upA_at, upA_ms]; exact t4
  · simp (disch := omega) only [up_at, up_ms, up_mi, upA_at, upA_ms]; exact j4
  · simp (disch := omega) only [up_at, up_ms, up_mi, upA_at, upA_ms]; exact j5
theorem st_law (hw : Sh (w 7) vz) (hm : CZ m2) (h8 : S8 n tp 0 w) (h7 : S7 n tp 0 m) : ∃ (r : Int32) (m2' m' w' : Mem), f_X5_readLaw m2 m = some (r, m2', m') ∧ (∀ K, lawP w K = K w') ∧ Fr PE8 w w' ∧ Fr PR7 m m' ∧
    ((r = n32 1 ∧ ∃ e' v', S7 n tp e' m' ∧ S8 n tp e' w' ∧ DR v' w' m2') ∨ (r = n32 0 ∧ ∃ fk fp, F7 fk fp m' ∧ F8 n tp fk fp w')) := by
  obtain ⟨m1, t1, t2, t3, t4⟩ := c_token h7
  have nb := h8.name
  have cw := wcmp (tp := tp) (n := n) (e := 0) (by omega) (i := 0) (by omega)
  obtain ⟨g1, g2⟩ := tkE_ge (tp := tp) h8.e_le
  unfold lawP f_X5_readLaw
  rw [k_law]
  rcases t_isWord t3 h8.e_le t4 (i := 0) (by omega) with ⟨a, b⟩ | ⟨a, b⟩
  · obtain ⟨w1, d1, d2, d3⟩ := r_must1 h8
    have sm : S7 n tp (tkE n tp 0) m1 := ⟨t3, t4.2.2.1, g2⟩
    obtain ⟨w2, m3, p1, p2, p3⟩ := both_number d3 sm 0 (50 + 1) (by omega) (by omega)
    rw [dn_s] at p3
    rcases p3 with ⟨x1, x2, x3, x4, x5, x6, -⟩ | ⟨r, fk, fp, x1, x2, x3, x4⟩
    · obtain ⟨-, -, va⟩ := x1
      generalize hA : nv n tp (tkE n tp 0) = A at *
      obtain ⟨w3, m4, q1, q2, q3⟩ := both_number (x5.up7 0 (n32 A)) x6 1 (20 + 1) (by omega) (by omega)
      rw [dn_s] at q3
      rcases q3 with ⟨y1, y2, y3, y4, y5, y6, -⟩ | ⟨r, fk, fp, y1, y2, y3, y4⟩
      · obtain ⟨-, vb1, vb⟩ := y1
        generalize hB : nv n tp (tkE n tp (tkE n tp 0)) = B at *
        obtain ⟨w5, m6, u1, u2, u3⟩ := both_sign (y5.up7 1 (n32 B)) y6
        have q8 : Fr PE8 w w5 := ((((d2.trans p1).e.up 7 0 (n32 A) (Or.inl rfl)).trans q1.e).up 7 1 (n32 B) (Or.inl rfl)).trans u1.e
        have q7 := t2.trans (p2.trans (q2.trans u2))
        have hww : Sh (w2 7) vz := by rw [(d2.trans p1).row 7 (fun i => by unfold PR8; omega)]; exact hw
        have dl := dr_law hww hm (l := A) (r := B) (by omega) (by omega)
        have e5 : w5 7 = (up (up w2 7 0 (n32 A)) 7 1 (n32 B)) 7 := by
          rw [u1.row 7 (fun i => by unfold PR8; omega)]
          funext i
          by_cases z : i = 1
          · rw [z, up_at, up_at]
          · rw [up_mi z, up_mi z, q1 7 i (by unfold PR8; omega)]
        have dl' : DR (vset (vset vz 0 A) 1 B) w5 (up (up m2 0 1 (n32 A)) 0 2 (n32 B)) := ⟨by rw [e5]; exact dl.1, dl.2⟩
        rcases u3 with ⟨i1, i2, i3, i4⟩ | ⟨fk, fp, i1, i2, i3, i4⟩
        · refine ⟨n32 1, _, m6, w5, ?_, fun K => ?_, q8, q7, Or.inl ⟨rfl, _, _, i4, i3, dl'⟩⟩
          · simp (maxSteps := 400000) (disch := omega) only [n32_lit, n32_add, n32_mul, n32_lt, n32_le, n32_eq, n32_nat, n32_inb, gd_dec, gdE, ↓nmE, ↓jnE, ↓bsE, Nat.reduceAdd, Nat.reduceMul, Nat.reduceSub, Nat.reduceLT, Nat.reduceLeDiff, Nat.reduceEqDiff, ↓reduceIte, decide_true, decide_false, and_true, true_and, and_false, false_and, or_false, false_or, or_true, true_or, not_true_eq_false, not_false_eq_true, eq_self, Nat.zero_add, Nat.add_zero, Nat.mul_zero, Nat.mul_one, Nat.zero_le, Nat.not_lt_zero, bind_sm, bind_sm2, up_at, up_ms, up_mi, upA_at, upA_ms, t1, b, x3, x4, y3, y4, i2, dec11]
          · simp (maxSteps := 400000) (disch := omega) only [n32_lit, n32_add, n32_mul, n32_lt, n32_le, n32_eq, n32_nat, n32_inb, gd_dec, gdE, ↓nmE, ↓jnE, ↓bsE, Nat.reduceAdd, Nat.reduceMul, Nat.reduceSub, Nat.reduceLT, Nat.reduceLeDiff, Nat.reduceEqDiff, ↓reduceIte, decide_true, decide_false, and_true, true_and, and_false, false_and, or_false, false_or, or_true, true_or, not_true_eq_false, not_false_eq_true, eq_self, Nat.zero_add, Nat.add_zero, Nat.mul_zero, Nat.mul_one, Nat.zero_le, Nat.not_lt_zero, bind_sm, bind_sm2, up_at, up_ms, up_mi, upA_at, upA_ms, nb, cw, a, d1, x2, y2, i1]
        · refine ⟨n32 0, up (up m2 0 1 (n32 A)) 0 2 (n32 B), m6, w5, ?_, fun K => ?_, q8, q7, Or.inr ⟨rfl, fk, fp, i4, i3⟩⟩
          · simp (maxSteps := 400000) (disch := omega) only [n32_lit, n32_add, n32_mul, n32_lt, n32_le, n32_eq, n32_nat, n32_inb, gd_dec, gdE, ↓nmE, ↓jnE, ↓bsE, Nat.reduceAdd, Nat.reduceMul, Nat.reduceSub, Nat.reduceLT, Nat.reduceLeDiff, Nat.reduceEqDiff, ↓reduceIte, decide_true, decide_false, and_true, true_and, and_false, false_and, or_false, false_or, or_true, true_or, not_true_eq_false, not_false_eq_true, eq_self, Nat.zero_add, Nat.add_zero, Nat.mul_zero, Nat.mul_one, Nat.zero_le, Nat.not_lt_zero, bind_sm, bind_sm2, up_at, up_ms, up_mi, upA_at, upA_ms, t1, b, x3, x4, y3, y4, i2, dec01]
          · simp (maxSteps := 400000) (disch := omega) only [n32_lit, n32_add, n32_mul, n32_lt, n32_le, n32_eq, n32_nat, n32_inb, gd_dec, gdE, ↓nmE, ↓jnE, ↓bsE, Nat.reduceAdd, Nat.reduceMul, Nat.reduceSub, Nat.reduceLT, Nat.reduceLeDiff, Nat.reduceEqDiff, ↓reduceIte, decide_true, decide_false, and_true, true_and, and_false, false_and, or_false, false_or, or_true, true_or, not_true_eq_false, not_false_eq_true, eq_self, Nat.zero_add, Nat.add_zero, Nat.mul_zero, Nat.mul_one, Nat.zero_le, Nat.not_lt_zero, bind_sm, bind_sm2, up_at, up_ms, up_mi, upA_at, upA_ms, nb, cw, a, d1, x2, y2, i1]
      · have y3' := y3.up7 1 r
        refine ⟨n32 0, up m2 0 1 (n32 A), m4, up w3 7 1 r, ?_, fun K => ?_, ?_, t2.trans (p2.trans q2), Or.inr ⟨rfl, fk, fp, y4, y3'⟩⟩
        · simp (maxSteps := 400000) (disch := omega) only [n32_lit, n32_add, n32_mul, n32_lt, n32_le, n32_eq, n32_nat, n32_inb, gd_dec, gdE, ↓nmE, ↓jnE, ↓bsE, Nat.reduceAdd, Nat.reduceMul, Nat.reduceSub, Nat.reduceLT, Nat.reduceLeDiff, Nat.reduceEqDiff, ↓reduceIte, decide_true, decide_false, and_true, true_and, and_false, false_and, or_false, false_or, or_true, true_or, not_true_eq_false, not_false_eq_true, eq_self, Nat.zero_add, Nat.add_zero, Nat.mul_zero, Nat.mul_one, Nat.zero_le, Nat.not_lt_zero, bind_sm, bind_sm2, up_at, up_ms, up_mi, upA_at, upA_ms, t1, b, x3, x4, y2]
        · simp (maxSteps := 400000) (disch := omega) only [n32_lit, n32_add, n32_mul, n32_lt, n32_le, n32_eq, n32_nat, n32_inb, gd_dec, gdE, ↓nmE, ↓jnE, ↓bsE, Nat.reduceAdd, Nat.reduceMul, Nat.reduceSub, Nat.reduceLT, Nat.reduceLeDiff, Nat.reduceEqDiff, ↓reduceIte, decide_true, decide_false, and_true, true_and, and_false, false_and, or_false, false_or, or_true, true_or, not_true_eq_false, not_false_eq_true, eq_self, Nat.zero_add, Nat.add_zero, Nat.mul_zero, Nat.mul_one, Nat.zero_le, Nat.not_lt_zero, bind_sm, bind_sm2, up_at, up_ms, up_mi, upA_at, upA_ms, nb, cw, a, d1, x2, y1, r_mustEndF y3']
        · exact (((d2.trans p1).e.up 7 0 (n32 A) (Or.inl rfl)).trans q1.e).up 7 1 _ (Or.inl rfl)
    · have x3' := x3.up7 0 r
      have x3'' := x3'.up7 1 (n32 0)
      refine ⟨n32 0, m2, m3, up (up w2 7 0 r) 7 1 (n32 0), ?_, fun K => ?_, ?_, t2.trans p2, Or.inr ⟨rfl, fk, fp, x4, x3''⟩⟩
      · simp (maxSteps := 400000) (disch := omega) only [n32_lit, n32_add, n32_mul, n32_lt, n32_le, n32_eq, n32_nat, n32_inb, gd_dec, gdE, ↓nmE, ↓jnE, ↓bsE, Nat.reduceAdd, Nat.reduceMul, Nat.reduceSub, Nat.reduceLT, Nat.reduceLeDiff, Nat.reduceEqDiff, ↓reduceIte, decide_true, decide_false, and_true, true_and, and_false, false_and, or_false, false_or, or_true, true_or, not_true_eq_false, not_false_eq_true, eq_self, Nat.zero_add, Nat.add_zero, Nat.mul_zero, Nat.mul_one, Nat.zero_le, Nat.not_lt_zero, bind_sm, bind_sm2, up_at, up_ms, up_mi, upA_at, upA_ms, t1, b, x2]
      · simp (maxSteps := 400000) (disch := omega) only [n32_lit, n32_add, n32_mul, n32_lt, n32_le, n32_eq, n32_nat, n32_inb, gd_dec, gdE, ↓nmE, ↓jnE, ↓bsE, Nat.reduceAdd, Nat.reduceMul, Nat.reduceSub, Nat.reduceLT, Nat.reduceLeDiff, Nat.reduceEqDiff, ↓reduceIte, decide_true, decide_false, and_true, true_and, and_false, false_and, or_false, false_or, or_true, true_or, not_true_eq_false, not_false_eq_true, eq_self, Nat.zero_add, Nat.add_zero, Nat.mul_zero, Nat.mul_one, Nat.zero_le, Nat.not_lt_zero, bind_sm, bind_sm2, up_at, up_ms, up_mi, upA_at, upA_ms, nb, cw, a, d1, x1, r_numberF x3', r_mustEndF x3'']
      · exact ((d2.trans p1).e.up 7 0 _ (Or.inl rfl)).up 7 1 _ (Or.inl rfl)
  · obtain ⟨w1, d1, d2, d3⟩ := r_must0 h8
    obtain ⟨m3, f1, f2, f3⟩ := c_fail t4 1
    have d3' := d3.up7 0 (n32 0)
    have d3'' := d3'.up7 1 (n32 0)
    refine ⟨n32 0, m2, m3, up (up w1 7 0 (n32 0)) 7 1 (n32 0), ?_, fun K => ?_, ?_, t2.trans f2, Or.inr ⟨rfl, _, _, f3, d3''⟩⟩
    · simp (maxSteps := 400000) (disch := omega) only [n32_lit, n32_add, n32_mul, n32_lt, n32_le, n32_eq, n32_nat, n32_inb, gd_dec, gdE, ↓nmE, ↓jnE, ↓bsE, Nat.reduceAdd, Nat.reduceMul, Nat.reduceSub, Nat.reduceLT, Nat.reduceLeDiff, Nat.reduceEqDiff, ↓reduceIte, decide_true, decide_false, and_true, true_and, and_false, false_and, or_false, false_or, or_true, true_or, not_true_eq_false, not_false_eq_true, eq_self, Nat.zero_add, Nat.add_zero, Nat.mul_zero, Nat.mul_one, Nat.zero_le, Nat.not_lt_zero, bind_sm, bind_sm2, up_at, up_ms, up_mi, upA_at, upA_ms, t1, b, f1, dec01]
    · simp (maxSteps := 400000) (disch := omega) only [n32_lit, n32_add, n32_mul, n32_lt, n32_le, n32_eq, n32_nat, n32_inb, gd_dec, gdE, ↓nmE, ↓jnE, ↓bsE, Nat.reduceAdd, Nat.reduceMul, Nat.reduceSub, Nat.reduceLT, Nat.reduceLeDiff, Nat.reduceEqDiff, ↓reduceIte, decide_true, decide_false, and_true, true_and, and_false, false_and, or_false, false_or, or_true, true_or, not_true_eq_false, not_false_eq_true, eq_self, Nat.zero_add, Nat.add_zero, Nat.mul_zero, Nat.mul_one, Nat.zero_le, Nat.not_lt_zero, bind_sm, bind_sm2, up_at, up_ms, up_mi, upA_at, upA_ms, nb, cw, a, d1, r_numberF d3, r_numberF d3', r_mustEndF d3'']
    · exact (d2.e.up 7 0 _ (Or.inl rfl)).up 7 1 _ (Or.inl rfl)
end TK
