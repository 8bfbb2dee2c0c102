/-! rows -/
theorem up_ms {m : Mem} {s i : Nat} {v : Int32} {s' j : Nat} (h : s' ≠ s) : up m s i v s' j = m s' j := by rw [up_ap, if_neg (fun q => h q.1)]
theorem up_mi {m : Mem} {s i : Nat} {v : Int32} {j : Nat} (h : j ≠ i) : up m s i v s j = m s j := by rw [up_ap, if_neg (fun q => h q.2)]
theorem upA_at {m : Mem} {s : Nat} {f : Nat → Int32} {j : Nat} : upA m s f s j = f j := by rw [upA_ap, if_pos rfl]
theorem upA_ms {m : Mem} {s : Nat} {f : Nat → Int32} {s' j : Nat} (h : s' ≠ s) : upA m s f s' j = m s' j := by rw [upA_ap, if_neg h]
theorem nmE {α R : Type} (a : α) (k : α → Option R) : nm a k = k a := Eq.trans rfl rfl
theorem jnE {α R : Type} (X : (α → Option R) → Option R) (k : α → Option R) : jn X k = X k := Eq.trans rfl rfl
theorem gdE {R : Type} {x : Option R} : gd true x = x := Eq.trans rfl rfl
theorem bsE {α R : Type} (a : α) (f : α → Option R) : (some a).bind f = f a := Eq.trans rfl rfl
theorem n32_z : (0 : Int32) = n32 0 := rfl
theorem n32_o : (1 : Int32) = n32 1 := rfl
def Fr (P : Nat → Nat → Prop) (w w' : Mem) : Prop := ∀ s i, ¬ P s i → w' s i = w s i
theorem Fr.row {P : Nat → Nat → Prop} {w w' : Mem} (h : Fr P w w') (s : Nat) (hs : ∀ i, ¬ P s i) : w' s = w s := by
  funext i; exact h s i (hs i)
theorem Fr.refl {P : Nat → Nat → Prop} {w : Mem} : Fr P w w := fun _ _ _ => rfl
theorem Fr.up {P : Nat → Nat → Prop} {w w' : Mem} (h : Fr P w w') (s i : Nat) (v : Int32) (hs : P s i) : Fr P w (up w' s i v) := by
  intro s' j hn
  rw [up_ap, if_neg (fun q => hn (by rw [q.1, q.2]; exact hs))]
  exact h s' j hn
theorem Fr.upA {P : Nat → Nat → Prop} {w w' : Mem} (h : Fr P w w') (s : Nat) (f : Nat → Int32) (hs : ∀ i, P s i) : Fr P w (upA w' s f) := by
  intro s' j hn
  rw [upA_ap, if_neg (fun q => hn (by rw [q]; exact hs j))]
  exact h s' j hn
theorem Fr.trans {P : Nat → Nat → Prop} {w w' w'' : Mem} (h : Fr P w w') (h' : Fr P w' w'') : Fr P w w'' := fun s i q => (h' s i q).trans (h s i q)
theorem Fr.mono {P Q : Nat → Nat → Prop} {w w' : Mem} (h : Fr P w w') (hp : ∀ s i, P s i → Q s i) : Fr Q w w' := fun s i q => h s i (fun z => q (hp s i z))
def PRow (s i : Nat) : Prop := s = 3 ∨ s = 4 ∨ s = 5 ∨ (s = 0 ∧ i = 1)
/-- a call with rows -/
def RowStep (f7 : Option (Int32 × Mem × Mem)) (f8 : Option (Int32 × Mem)) (w : Mem) : Prop :=
  ∃ (a : Int32) (m5' m11' w' : Mem), f7 = some (a, m5', m11') ∧ f8 = some (a, w') ∧ Fr PRow w w' ∧ RRows (w' 3) (w' 4) (w' 5) m5' ∧ RSt (w' 0 1) m11'
theorem RSt.set {st : Int32} {m11 : Mem} (h : RSt st m11) (x : Int32) : RSt x (up m11 0 9 x) := by
  refine ⟨up_at _ _ _ _, ?_, ?_⟩
  · rw [up_ap, if_neg (by omega)]; exact h.2.1
  · rw [up_ap, if_neg (by omega)]; exact h.2.2
theorem RRows.of {w w' m5 : Mem} (h : RRows (w 3) (w 4) (w 5) m5) (e3 : w' 3 = w 3) (e4 : w' 4 = w 4) (e5 : w' 5 = w 5) : RRows (w' 3) (w' 4) (w' 5) m5 := by rw [e3, e4, e5]; exact h
/-- no row is touched: only what is found -/
theorem RowStep.found {m5 m11 w : Mem} {st : Int32} (hR : RRows (w 3) (w 4) (w 5) m5) (hS : RSt st m11) (a x : Int32) : RowStep (some (a, m5, up m11 0 9 x)) (some (a, up w 0 1 x)) w := by
  refine ⟨a, _, _, _, rfl, rfl, Fr.refl.up 0 1 x (Or.inr (Or.inr (Or.inr ⟨rfl, rfl⟩))), ?_, ?_⟩
  · exact hR.of (up_row _ _ _ _ _ (by decide)) (up_row _ _ _ _ _ (by decide)) (up_row _ _ _ _ _ (by decide))
  · rw [up_at]; exact hS.set x
theorem RowStep.none {m5 m11 w : Mem} (hR : RRows (w 3) (w 4) (w 5) m5) (hS : RSt (w 0 1) m11) (a : Int32) : RowStep (some (a, m5, m11)) (some (a, w)) w :=
  ⟨a, _, _, _, rfl, rfl, Fr.refl, hR, hS⟩
theorem RowStep.up1 {f7 : Option (Int32 × Mem × Mem)} {f8 : Option (Int32 × Mem)} {w : Mem} {x : Int32} (h : RowStep f7 f8 (up w 0 1 x)) : RowStep f7 f8 w := by
  obtain ⟨a, m5', m11', w', e1, e2, h3, h4, h5⟩ := h
  refine ⟨a, m5', m11', w', e1, e2, ?_, h4, h5⟩
  exact Fr.trans (Fr.refl.up 0 1 x (Or.inr (Or.inr (Or.inr ⟨rfl, rfl⟩)))) h3
theorem up_up (m : Mem) (s i : Nat) (a b : Int32) : up (up m s i a) s i b = up m s i b := by
  funext s' j
  rw [up_ap, up_ap, up_ap]
  by_cases h : s' = s ∧ j = i
  · rw [if_pos h, if_pos h]
  · rw [if_neg h, if_neg h, if_neg h]
theorem t_row_loop (w : Mem) {p : Nat} (hp : p < 8) (x3 : Int32) : ∃ w', f_X8_row_L65 (fun (u20 : Int32) (w21 : Mem) => (some (x3, w21))) (n32 p) 100000 (n32 0) w = some (x3, w') ∧ ∀ s j, w' s j = if s = 5 ∧ 40 * p ≤ j ∧ j < 40 * p + 40 then 0 else w s j := by
  have key : ok (fun r => r.1 = x3 ∧ ∀ s j, r.2 s j = if s = 5 ∧ 40 * p ≤ j ∧ j < 40 * p + 40 then 0 else w s j) (f_X8_row_L65 (fun (u20 : Int32) (w21 : Mem) => (some (x3, w21))) (n32 p) 100000 (n32 0) w) := by
    refine loop_up (S := Mem) (fun t u s => f_X8_row_L65 (fun (u20 : Int32) (w21 : Mem) => (some (x3, w21))) (n32 p) t u s) 40 (fun i r => ∀ s j, r s j = if s = 5 ∧ 40 * p ≤ j ∧ j < 40 * p + i then 0 else w s j) _ ?_ ?_ 40 0 w 100000 (by omega) (by omega) (fun s j => by rw [if_neg (by omega)])
    · intro t s hi
      refine ok_eq (f_X8_row_L65.eq_2 _ _ _ _ _) ?_
      simp (disch := omega) only [n32_lit, n32_add, n32_mul, n32_lt, n32_le, n32_eq, n32_nat, n32_inb, gd_dec, gd_one, nm_eq, jn_eq, Option.bind_some, Nat.reduceAdd, Nat.reduceMul, Nat.reduceSub, Nat.reduceLT, Nat.reduceLeDiff, Nat.reduceEqDiff, ↓reduceIte, decide_true, decide_false, and_true, true_and, and_false, false_and, or_false, false_or, or_true, true_or, not_true_eq_false, not_false_eq_true, eq_self, Nat.zero_add, Nat.add_zero, Nat.mul_zero, Nat.mul_one, Nat.zero_le, Nat.not_lt_zero, bind_sm, bind_sm2, Nat.le_refl]
      exact ok_some ⟨rfl, hi⟩
    · intro i t s hi hI
      left
      have hn : ¬ 40 ≤ i := by omega
      refine ⟨up s 5 (40 * p + i) 0, ?_, ?_⟩
      · intro s' j
        rw [up_ap, hI]
        by_cases h1 : s' = 5
        · by_cases h2 : j = 40 * p + i
          · rw [if_pos ⟨h1, h2⟩, if_pos (by omega)]
          · rw [if_neg (by omega)]
            by_cases h3 : 40 * p ≤ j ∧ j < 40 * p + i
            · rw [if_pos ⟨h1, h3⟩, if_pos (by omega)]
            · rw [if_neg (by omega), if_neg (by omega)]
        · rw [if_neg (by omega), if_neg (by omega), if_neg (by omega)]
      · refine Eq.trans (f_X8_row_L65.eq_2 _ _ _ _ _) ?_
        simp (disch := omega) only [n32_lit, n32_add, n32_mul, n32_lt, n32_le, n32_eq, n32_nat, n32_inb, gd_dec, gd_one, nm_eq, jn_eq, Option.bind_some, Nat.reduceAdd, Nat.reduceMul, Nat.reduceSub, Nat.reduceLT, Nat.reduceLeDiff, Nat.reduceEqDiff, ↓reduceIte, decide_true, decide_false, and_true, true_and, and_false, false_and, or_false, false_or, or_true, true_or, not_true_eq_false, not_false_eq_true, eq_self, Nat.zero_add, Nat.add_zero, Nat.mul_zero, Nat.mul_one, Nat.zero_le, Nat.not_lt_zero, bind_sm, bind_sm2, hn]
  obtain ⟨r, e, h1, h2⟩ := key
  exact ⟨r.2, by rw [e, ← h1], h2⟩
theorem s_row {m0 m5 m11 : Mem} (hR : RRows ((up m0 0 0 0) 3) ((up m0 0 0 0) 4) ((up m0 0 0 0) 5) m5) (hS : RSt ((up m0 0 0 0) 0 1) m11) (x y z : Int32) : RowStep (f_X7_row m5 m11 x y z) (f_X8_row m0 x y z) (up m0 0 0 0) := by
  unfold f_X7_row f_X8_row
  rw [nm_eq]
  generalize hw : up m0 0 0 0 = w at *
  rcases b_row x with ⟨p, hp, rfl, e1, e2⟩ | ⟨e1, e2⟩
  · rw [e1, e2]
    rcases tri y (k := 2) (by decide) with ⟨n, hn, rfl⟩ | q
    · rw [in_yes (b := 2) (k := 2) rfl hn (by decide)]
      have n2 : ¬ 2 < n := by omega
      simp (disch := omega) only [n32_lit, n32_add, n32_mul, n32_lt, n32_le, n32_eq, n32_nat, n32_inb, gd_dec, gd_one, nm_eq, jn_eq, Option.bind_some, Nat.reduceAdd, Nat.reduceMul, Nat.reduceSub, Nat.reduceLT, Nat.reduceLeDiff, Nat.reduceEqDiff, ↓reduceIte, decide_true, decide_false, and_true, true_and, and_false, false_and, or_false, false_or, or_true, true_or, not_true_eq_false, not_false_eq_true, eq_self, Nat.zero_add, Nat.add_zero, Nat.mul_zero, Nat.mul_one, Nat.zero_le, Nat.not_lt_zero, bind_sm, bind_sm2, n2]
      by_cases z1 : z ≤ n32 40
      · rw [if_pos z1, if_pos z1]
        by_cases z2 : n32 0 ≤ z
        · rw [if_pos z2, if_pos z2]
          obtain ⟨k, hk, rfl⟩ : ∃ k, k ≤ 40 ∧ z = n32 k := by
            rcases tri z (k := 40) (by decide) with h | h | h
            · exact h
            · exact absurd z2 (by rw [i32_nle]; exact h)
            · exact absurd z1 (by rw [i32_nle]; exact h)
          obtain ⟨w', e3, h3⟩ := t_row_loop (up (up (up w 0 1 (n32 0)) 3 p (n32 n)) 4 p (n32 k)) hp (n32 k)
          simp (disch := omega) only [n32_lit, n32_add, n32_mul, n32_lt, n32_le, n32_eq, n32_nat, n32_inb, gd_dec, gd_one, nm_eq, jn_eq, Option.bind_some, Nat.reduceAdd, Nat.reduceMul, Nat.reduceSub, Nat.reduceLT, Nat.reduceLeDiff, Nat.reduceEqDiff, ↓reduceIte, decide_true, decide_false, and_true, true_and, and_false, false_and, or_false, false_or, or_true, true_or, not_true_eq_false, not_false_eq_true, eq_self, Nat.zero_add, Nat.add_zero, Nat.mul_zero, Nat.mul_one, Nat.zero_le, Nat.not_lt_zero, bind_sm, bind_sm2, hp, e3]
          unfold f_X6_make f_X7_fine
          simp (disch := omega) only [n32_lit, n32_add, n32_mul, n32_lt, n32_le, n32_eq, n32_nat, n32_inb, gd_dec, gd_one, nm_eq, jn_eq, Option.bind_some, Nat.reduceAdd, Nat.reduceMul, Nat.reduceSub, Nat.reduceLT, Nat.reduceLeDiff, Nat.reduceEqDiff, ↓reduceIte, decide_true, decide_false, and_true, true_and, and_false, false_and, or_false, false_or, or_true, true_or, not_true_eq_false, not_false_eq_true, eq_self, Nat.zero_add, Nat.add_zero, Nat.mul_zero, Nat.mul_one, Nat.zero_le, Nat.not_lt_zero, bind_sm, bind_sm2, hp]
          have f3 : ∀ s, s ≠ 5 → ∀ j, w' s j = (up (up (up w 0 1 (n32 0)) 3 p (n32 n)) 4 p (n32 k)) s j := fun s hs j => by rw [h3, if_neg (by omega)]
          refine ⟨_, _, _, _, rfl, rfl, ?_, ?_, ?_⟩
          · intro s j hn
            unfold PRow at hn
            rw [f3 s (by omega), up_ap, if_neg (by omega), up_ap, if_neg (by omega), up_ap, if_neg (by omega)]
          · intro r hr
            obtain ⟨g1, g2, ⟨k', g3, g4, g5⟩, g6⟩ := hR r hr
            rw [f3 3 (by omega), f3 4 (by omega)]
            by_cases hrp : r = p
            · subst hrp
              refine ⟨?_, ?_, ⟨k, hk, ?_, ?_⟩, ?_⟩
              · simp (disch := omega) only [up_at, up_ms, up_mi, upA_at, upA_ms]
                rcases (show n = 0 ∨ n = 1 ∨ n = 2 by omega) with rfl | rfl | rfl
                · exact Or.inr (Or.inl rfl)
                · exact Or.inr (Or.inr (Or.inl rfl))
                · exact Or.inr (Or.inr (Or.inr rfl))
              · simp (disch := omega) only [up_at, up_ms, up_mi, upA_at, upA_ms]
              · simp (disch := omega) only [up_at, up_ms, up_mi, upA_at, upA_ms]
              · simp (disch := omega) only [up_at, up_ms, up_mi, upA_at, upA_ms]
              · intro i hi
                rw [h3, if_pos (by omega), upA_at]
                unfold fillf
                rw [if_pos hi]; rfl
            · refine ⟨?_, ?_, ⟨k', g3, ?_, ?_⟩, ?_⟩
              · simp (disch := omega) only [up_at, up_ms, up_mi, upA_at, upA_ms]; exact g1
              · simp (disch := omega) only [up_at, up_ms, up_mi, upA_at, upA_ms]; exact g2
              · simp (disch := omega) only [up_at, up_ms, up_mi, upA_at, upA_ms]; exact g4
              · simp (disch := omega) only [up_at, up_ms, up_mi, upA_at, upA_ms]; exact g5
              · intro i hi
                rw [h3, if_neg (by omega)]
                simp (disch := omega) only [up_at, up_ms, up_mi, upA_at, upA_ms]
                exact g6 i hi
          · rw [f3 0 (by omega)]
            have : up (up (up w 0 1 (n32 0)) 3 p (n32 n)) 4 p (n32 k) 0 1 = n32 0 := by simp [up_ap]
            rw [this]
            exact hS.set _
        · rw [if_neg z2, if_neg z2]
          unfold f_X7_found f_X8_finding
          simp (disch := omega) only [n32_lit, n32_add, n32_mul, n32_lt, n32_le, n32_eq, n32_nat, n32_inb, gd_dec, gd_one, nm_eq, jn_eq, Option.bind_some, Nat.reduceAdd, Nat.reduceMul, Nat.reduceSub, Nat.reduceLT, Nat.reduceLeDiff, Nat.reduceEqDiff, ↓reduceIte, decide_true, decide_false, and_true, true_and, and_false, false_and, or_false, false_or, or_true, true_or, not_true_eq_false, not_false_eq_true, eq_self, Nat.zero_add, Nat.add_zero, Nat.mul_zero, Nat.mul_one, Nat.zero_le, Nat.not_lt_zero, bind_sm, bind_sm2, up_up]
          exact RowStep.found hR hS _ _
      · rw [if_neg z1, if_neg z1]
        exact RowStep.none hR hS _
    · rw [in_no (b := 2) (k := 2) rfl (by decide) q]
      by_cases z0 : y < n32 0
      · simp (disch := omega) only [n32_lit, n32_add, n32_mul, n32_lt, n32_le, n32_eq, n32_nat, n32_inb, gd_dec, gd_one, nm_eq, jn_eq, Option.bind_some, Nat.reduceAdd, Nat.reduceMul, Nat.reduceSub, Nat.reduceLT, Nat.reduceLeDiff, Nat.reduceEqDiff, ↓reduceIte, decide_true, decide_false, and_true, true_and, and_false, false_and, or_false, false_or, or_true, true_or, not_true_eq_false, not_false_eq_true, eq_self, Nat.zero_add, Nat.add_zero, Nat.mul_zero, Nat.mul_one, Nat.zero_le, Nat.not_lt_zero, bind_sm, bind_sm2, z0]
        exact RowStep.none hR hS _
      · have z1 : n32 2 < y := q.resolve_left z0
        simp (disch := omega) only [n32_lit, n32_add, n32_mul, n32_lt, n32_le, n32_eq, n32_nat, n32_inb, gd_dec, gd_one, nm_eq, jn_eq, Option.bind_some, Nat.reduceAdd, Nat.reduceMul, Nat.reduceSub, Nat.reduceLT, Nat.reduceLeDiff, Nat.reduceEqDiff, ↓reduceIte, decide_true, decide_false, and_true, true_and, and_false, false_and, or_false, false_or, or_true, true_or, not_true_eq_false, not_false_eq_true, eq_self, Nat.zero_add, Nat.add_zero, Nat.mul_zero, Nat.mul_one, Nat.zero_le, Nat.not_lt_zero, bind_sm, bind_sm2, z0, z1]
        exact RowStep.none hR hS _
  · rw [e1, e2]
    simp (disch := omega) only [n32_lit, n32_add, n32_mul, n32_lt, n32_le, n32_eq, n32_nat, n32_inb, gd_dec, gd_one, nm_eq, jn_eq, Option.bind_some, Nat.reduceAdd, Nat.reduceMul, Nat.reduceSub, Nat.reduceLT, Nat.reduceLeDiff, Nat.reduceEqDiff, ↓reduceIte, decide_true, decide_false, and_true, true_and, and_false, false_and, or_false, false_or, or_true, true_or, not_true_eq_false, not_false_eq_true, eq_self, Nat.zero_add, Nat.add_zero, Nat.mul_zero, Nat.mul_one, Nat.zero_le, Nat.not_lt_zero, bind_sm, bind_sm2]
    exact RowStep.none hR hS _
